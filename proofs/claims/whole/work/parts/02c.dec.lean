theorem dM_ship_0 : decode (hr_cd 116) 0 = .ok (.iload_n 1, 1) := by decide +kernel
theorem dM_ship_1 : decode (hr_cd 116) 1 = .ok (.iconst 0, 1) := by decide +kernel
theorem dM_ship_2 : decode (hr_cd 116) 2 = .ok (.iconst 2, 1) := by decide +kernel
theorem dM_ship_3 : decode (hr_cd 116) 3 = .ok (.invokestatic 49, 3) := by decide +kernel
theorem dM_ship_6 : decode (hr_cd 116) 6 = .ok (.ifCond .eq 31, 3) := by decide +kernel
theorem dM_ship_9 : decode (hr_cd 116) 9 = .ok (.iload_n 2, 1) := by decide +kernel
theorem dM_ship_10 : decode (hr_cd 116) 10 = .ok (.iconst 0, 1) := by decide +kernel
theorem dM_ship_11 : decode (hr_cd 116) 11 = .ok (.iload_n 1, 1) := by decide +kernel
theorem dM_ship_12 : decode (hr_cd 116) 12 = .ok (.ifCond .ne 8, 3) := by decide +kernel
theorem dM_ship_15 : decode (hr_cd 116) 15 = .ok (.bipush 63, 2) := by decide +kernel
theorem dM_ship_17 : decode (hr_cd 116) 17 = .ok (.goto 14, 3) := by decide +kernel
theorem dM_ship_20 : decode (hr_cd 116) 20 = .ok (.iload_n 1, 1) := by decide +kernel
theorem dM_ship_21 : decode (hr_cd 116) 21 = .ok (.iconst 1, 1) := by decide +kernel
theorem dM_ship_22 : decode (hr_cd 116) 22 = .ok (.if_icmp .ne 8, 3) := by decide +kernel
theorem dM_ship_25 : decode (hr_cd 116) 25 = .ok (.bipush 9, 2) := by decide +kernel
theorem dM_ship_27 : decode (hr_cd 116) 27 = .ok (.goto 4, 3) := by decide +kernel
theorem dM_ship_30 : decode (hr_cd 116) 30 = .ok (.iconst 1, 1) := by decide +kernel
theorem dM_ship_31 : decode (hr_cd 116) 31 = .ok (.invokestatic 49, 3) := by decide +kernel
theorem dM_ship_34 : decode (hr_cd 116) 34 = .ok (.ifCond .ne 9, 3) := by decide +kernel
theorem dM_ship_37 : decode (hr_cd 116) 37 = .ok (.aload_n 0, 1) := by decide +kernel
theorem dM_ship_38 : decode (hr_cd 116) 38 = .ok (.iconst 0, 1) := by decide +kernel
theorem dM_ship_39 : decode (hr_cd 116) 39 = .ok (.invokevirtual 98, 3) := by decide +kernel
theorem dM_ship_42 : decode (hr_cd 116) 42 = .ok (.ireturn, 1) := by decide +kernel
theorem dM_ship_43 : decode (hr_cd 116) 43 = .ok (.aload_n 0, 1) := by decide +kernel
theorem dM_ship_44 : decode (hr_cd 116) 44 = .ok (.getfield 9, 3) := by decide +kernel
theorem dM_ship_47 : decode (hr_cd 116) 47 = .ok (.iconst 1, 1) := by decide +kernel
theorem dM_ship_48 : decode (hr_cd 116) 48 = .ok (.iload_n 1, 1) := by decide +kernel
theorem dM_ship_49 : decode (hr_cd 116) 49 = .ok (.iadd, 1) := by decide +kernel
theorem dM_ship_50 : decode (hr_cd 116) 50 = .ok (.iaload, 1) := by decide +kernel
theorem dM_ship_51 : decode (hr_cd 116) 51 = .ok (.istore_n 3, 1) := by decide +kernel
theorem dM_ship_52 : decode (hr_cd 116) 52 = .ok (.aload_n 0, 1) := by decide +kernel
theorem dM_ship_53 : decode (hr_cd 116) 53 = .ok (.getfield 9, 3) := by decide +kernel
theorem dM_ship_56 : decode (hr_cd 116) 56 = .ok (.iconst 1, 1) := by decide +kernel
theorem dM_ship_57 : decode (hr_cd 116) 57 = .ok (.iload_n 1, 1) := by decide +kernel
theorem dM_ship_58 : decode (hr_cd 116) 58 = .ok (.iadd, 1) := by decide +kernel
theorem dM_ship_59 : decode (hr_cd 116) 59 = .ok (.iload_n 2, 1) := by decide +kernel
theorem dM_ship_60 : decode (hr_cd 116) 60 = .ok (.iastore, 1) := by decide +kernel
theorem dM_ship_61 : decode (hr_cd 116) 61 = .ok (.iload_n 1, 1) := by decide +kernel
theorem dM_ship_62 : decode (hr_cd 116) 62 = .ok (.ifCond .ne 8, 3) := by decide +kernel
theorem dM_ship_65 : decode (hr_cd 116) 65 = .ok (.aload_n 0, 1) := by decide +kernel
theorem dM_ship_66 : decode (hr_cd 116) 66 = .ok (.iload_n 2, 1) := by decide +kernel
theorem dM_ship_67 : decode (hr_cd 116) 67 = .ok (.invokevirtual 101, 3) := by decide +kernel
theorem dM_ship_70 : decode (hr_cd 116) 70 = .ok (.iload_n 3, 1) := by decide +kernel
theorem dM_ship_71 : decode (hr_cd 116) 71 = .ok (.ireturn, 1) := by decide +kernel
theorem dM_in1_0 : decode (hr_cd 117) 0 = .ok (.iload_n 0, 1) := by decide +kernel
theorem dM_in1_1 : decode (hr_cd 117) 1 = .ok (.iload_n 1, 1) := by decide +kernel
theorem dM_in1_2 : decode (hr_cd 117) 2 = .ok (.if_icmp .lt 12, 3) := by decide +kernel
theorem dM_in1_5 : decode (hr_cd 117) 5 = .ok (.iload_n 0, 1) := by decide +kernel
theorem dM_in1_6 : decode (hr_cd 117) 6 = .ok (.iload_n 2, 1) := by decide +kernel
theorem dM_in1_7 : decode (hr_cd 117) 7 = .ok (.if_icmp .gt 7, 3) := by decide +kernel
theorem dM_in1_10 : decode (hr_cd 117) 10 = .ok (.iconst 1, 1) := by decide +kernel
theorem dM_in1_11 : decode (hr_cd 117) 11 = .ok (.goto 4, 3) := by decide +kernel
theorem dM_in1_14 : decode (hr_cd 117) 14 = .ok (.iconst 0, 1) := by decide +kernel
theorem dM_in1_15 : decode (hr_cd 117) 15 = .ok (.ireturn, 1) := by decide +kernel
theorem dM_no_0 : decode (hr_cd 118) 0 = .ok (.aload_n 0, 1) := by decide +kernel
theorem dM_no_1 : decode (hr_cd 118) 1 = .ok (.getfield 19, 3) := by decide +kernel
theorem dM_no_4 : decode (hr_cd 118) 4 = .ok (.iload_n 1, 1) := by decide +kernel
theorem dM_no_5 : decode (hr_cd 118) 5 = .ok (.dup2, 1) := by decide +kernel
theorem dM_no_6 : decode (hr_cd 118) 6 = .ok (.iaload, 1) := by decide +kernel
theorem dM_no_7 : decode (hr_cd 118) 7 = .ok (.iconst 1, 1) := by decide +kernel
theorem dM_no_8 : decode (hr_cd 118) 8 = .ok (.iadd, 1) := by decide +kernel
theorem dM_no_9 : decode (hr_cd 118) 9 = .ok (.iastore, 1) := by decide +kernel
theorem dM_no_10 : decode (hr_cd 118) 10 = .ok (.ldc 48, 2) := by decide +kernel
theorem dM_no_12 : decode (hr_cd 118) 12 = .ok (.iload_n 1, 1) := by decide +kernel
theorem dM_no_13 : decode (hr_cd 118) 13 = .ok (.isub, 1) := by decide +kernel
theorem dM_no_14 : decode (hr_cd 118) 14 = .ok (.ireturn, 1) := by decide +kernel
theorem dM_placesShip_0 : decode (hr_cd 119) 0 = .ok (.aload_n 0, 1) := by decide +kernel
theorem dM_placesShip_1 : decode (hr_cd 119) 1 = .ok (.getfield 9, 3) := by decide +kernel
theorem dM_placesShip_4 : decode (hr_cd 119) 4 = .ok (.iconst 1, 1) := by decide +kernel
theorem dM_placesShip_5 : decode (hr_cd 119) 5 = .ok (.iload_n 1, 1) := by decide +kernel
theorem dM_placesShip_6 : decode (hr_cd 119) 6 = .ok (.iastore, 1) := by decide +kernel
theorem dM_placesShip_7 : decode (hr_cd 119) 7 = .ok (.aload_n 0, 1) := by decide +kernel
theorem dM_placesShip_8 : decode (hr_cd 119) 8 = .ok (.getfield 9, 3) := by decide +kernel
theorem dM_placesShip_11 : decode (hr_cd 119) 11 = .ok (.iconst 4, 1) := by decide +kernel
theorem dM_placesShip_12 : decode (hr_cd 119) 12 = .ok (.iload_n 1, 1) := by decide +kernel
theorem dM_placesShip_13 : decode (hr_cd 119) 13 = .ok (.bipush 63, 2) := by decide +kernel
theorem dM_placesShip_15 : decode (hr_cd 119) 15 = .ok (.if_icmp .ne 7, 3) := by decide +kernel
theorem dM_placesShip_18 : decode (hr_cd 119) 18 = .ok (.iconst 2, 1) := by decide +kernel
theorem dM_placesShip_19 : decode (hr_cd 119) 19 = .ok (.goto 4, 3) := by decide +kernel
theorem dM_placesShip_22 : decode (hr_cd 119) 22 = .ok (.iconst 0, 1) := by decide +kernel
theorem dM_placesShip_23 : decode (hr_cd 119) 23 = .ok (.iastore, 1) := by decide +kernel
theorem dM_placesShip_24 : decode (hr_cd 119) 24 = .ok (.return_, 1) := by decide +kernel
theorem dM_now_0 : decode (hr_cd 120) 0 = .ok (.iload_n 1, 1) := by decide +kernel
theorem dM_now_1 : decode (hr_cd 120) 1 = .ok (.iconst 0, 1) := by decide +kernel
theorem dM_now_2 : decode (hr_cd 120) 2 = .ok (.bipush 6, 2) := by decide +kernel
theorem dM_now_4 : decode (hr_cd 120) 4 = .ok (.invokestatic 49, 3) := by decide +kernel
theorem dM_now_7 : decode (hr_cd 120) 7 = .ok (.ifCond .ne 9, 3) := by decide +kernel
theorem dM_now_10 : decode (hr_cd 120) 10 = .ok (.aload_n 0, 1) := by decide +kernel
theorem dM_now_11 : decode (hr_cd 120) 11 = .ok (.iconst 0, 1) := by decide +kernel
theorem dM_now_12 : decode (hr_cd 120) 12 = .ok (.invokevirtual 98, 3) := by decide +kernel
theorem dM_now_15 : decode (hr_cd 120) 15 = .ok (.ireturn, 1) := by decide +kernel
theorem dM_now_16 : decode (hr_cd 120) 16 = .ok (.iload_n 1, 1) := by decide +kernel
theorem dM_now_17 : decode (hr_cd 120) 17 = .ok (.iconst 5, 1) := by decide +kernel
theorem dM_now_18 : decode (hr_cd 120) 18 = .ok (.if_icmp .ge 12, 3) := by decide +kernel
theorem dM_now_21 : decode (hr_cd 120) 21 = .ok (.aload_n 0, 1) := by decide +kernel
theorem dM_now_22 : decode (hr_cd 120) 22 = .ok (.getfield 9, 3) := by decide +kernel
theorem dM_now_25 : decode (hr_cd 120) 25 = .ok (.iload_n 1, 1) := by decide +kernel
theorem dM_now_26 : decode (hr_cd 120) 26 = .ok (.iaload, 1) := by decide +kernel
theorem dM_now_27 : decode (hr_cd 120) 27 = .ok (.goto 32, 3) := by decide +kernel
theorem dM_now_30 : decode (hr_cd 120) 30 = .ok (.iload_n 1, 1) := by decide +kernel
theorem dM_now_31 : decode (hr_cd 120) 31 = .ok (.iconst 5, 1) := by decide +kernel
theorem dM_now_32 : decode (hr_cd 120) 32 = .ok (.if_icmp .ne 10, 3) := by decide +kernel
theorem dM_now_35 : decode (hr_cd 120) 35 = .ok (.aload_n 0, 1) := by decide +kernel
theorem dM_now_36 : decode (hr_cd 120) 36 = .ok (.invokevirtual 104, 3) := by decide +kernel
theorem dM_now_39 : decode (hr_cd 120) 39 = .ok (.goto 20, 3) := by decide +kernel
theorem dM_now_42 : decode (hr_cd 120) 42 = .ok (.aload_n 0, 1) := by decide +kernel
theorem dM_now_43 : decode (hr_cd 120) 43 = .ok (.getfield 9, 3) := by decide +kernel
theorem dM_now_46 : decode (hr_cd 120) 46 = .ok (.iconst 4, 1) := by decide +kernel
theorem dM_now_47 : decode (hr_cd 120) 47 = .ok (.iaload, 1) := by decide +kernel
theorem dM_now_48 : decode (hr_cd 120) 48 = .ok (.ifCond .ne 10, 3) := by decide +kernel
theorem dM_now_51 : decode (hr_cd 120) 51 = .ok (.aload_n 0, 1) := by decide +kernel
theorem dM_now_52 : decode (hr_cd 120) 52 = .ok (.invokevirtual 74, 3) := by decide +kernel
theorem dM_now_55 : decode (hr_cd 120) 55 = .ok (.goto 4, 3) := by decide +kernel
theorem dM_now_58 : decode (hr_cd 120) 58 = .ok (.iconst (-1), 1) := by decide +kernel
theorem dM_now_59 : decode (hr_cd 120) 59 = .ok (.ireturn, 1) := by decide +kernel
theorem dM_heard_0 : decode (hr_cd 121) 0 = .ok (.iconst 0, 1) := by decide +kernel
theorem dM_heard_1 : decode (hr_cd 121) 1 = .ok (.istore_n 1, 1) := by decide +kernel
theorem dM_heard_2 : decode (hr_cd 121) 2 = .ok (.iconst 0, 1) := by decide +kernel
theorem dM_heard_3 : decode (hr_cd 121) 3 = .ok (.istore_n 2, 1) := by decide +kernel
theorem dM_heard_4 : decode (hr_cd 121) 4 = .ok (.iload_n 2, 1) := by decide +kernel
theorem dM_heard_5 : decode (hr_cd 121) 5 = .ok (.aload_n 0, 1) := by decide +kernel
theorem dM_heard_6 : decode (hr_cd 121) 6 = .ok (.getfield 9, 3) := by decide +kernel
theorem dM_heard_9 : decode (hr_cd 121) 9 = .ok (.iconst 5, 1) := by decide +kernel
theorem dM_heard_10 : decode (hr_cd 121) 10 = .ok (.iaload, 1) := by decide +kernel
theorem dM_heard_11 : decode (hr_cd 121) 11 = .ok (.if_icmp .ge 27, 3) := by decide +kernel
theorem dM_heard_14 : decode (hr_cd 121) 14 = .ok (.iload_n 1, 1) := by decide +kernel
theorem dM_heard_15 : decode (hr_cd 121) 15 = .ok (.aload_n 0, 1) := by decide +kernel
theorem dM_heard_16 : decode (hr_cd 121) 16 = .ok (.iload_n 2, 1) := by decide +kernel
theorem dM_heard_17 : decode (hr_cd 121) 17 = .ok (.invokevirtual 66, 3) := by decide +kernel
theorem dM_heard_20 : decode (hr_cd 121) 20 = .ok (.ifCond .eq 9, 3) := by decide +kernel
theorem dM_heard_23 : decode (hr_cd 121) 23 = .ok (.iconst 1, 1) := by decide +kernel
theorem dM_heard_24 : decode (hr_cd 121) 24 = .ok (.iload_n 2, 1) := by decide +kernel
theorem dM_heard_25 : decode (hr_cd 121) 25 = .ok (.ishl, 1) := by decide +kernel
theorem dM_heard_26 : decode (hr_cd 121) 26 = .ok (.goto 4, 3) := by decide +kernel
theorem dM_heard_29 : decode (hr_cd 121) 29 = .ok (.iconst 0, 1) := by decide +kernel
theorem dM_heard_30 : decode (hr_cd 121) 30 = .ok (.ior, 1) := by decide +kernel
theorem dM_heard_31 : decode (hr_cd 121) 31 = .ok (.istore_n 1, 1) := by decide +kernel
theorem dM_heard_32 : decode (hr_cd 121) 32 = .ok (.iinc 2 1, 3) := by decide +kernel
theorem dM_heard_35 : decode (hr_cd 121) 35 = .ok (.goto (-31), 3) := by decide +kernel
theorem dM_heard_38 : decode (hr_cd 121) 38 = .ok (.iload_n 1, 1) := by decide +kernel
theorem dM_heard_39 : decode (hr_cd 121) 39 = .ok (.ireturn, 1) := by decide +kernel
theorem dM_hearsOf_0 : decode (hr_cd 122) 0 = .ok (.aload_n 0, 1) := by decide +kernel
theorem dM_hearsOf_1 : decode (hr_cd 122) 1 = .ok (.iload_n 1, 1) := by decide +kernel
theorem dM_hearsOf_2 : decode (hr_cd 122) 2 = .ok (.aload_n 0, 1) := by decide +kernel
theorem dM_hearsOf_3 : decode (hr_cd 122) 3 = .ok (.getfield 9, 3) := by decide +kernel
theorem dM_hearsOf_6 : decode (hr_cd 122) 6 = .ok (.iconst 1, 1) := by decide +kernel
theorem dM_hearsOf_7 : decode (hr_cd 122) 7 = .ok (.iaload, 1) := by decide +kernel
theorem dM_hearsOf_8 : decode (hr_cd 122) 8 = .ok (.invokevirtual 60, 3) := by decide +kernel
theorem dM_hearsOf_11 : decode (hr_cd 122) 11 = .ok (.aload_n 0, 1) := by decide +kernel
theorem dM_hearsOf_12 : decode (hr_cd 122) 12 = .ok (.getfield 9, 3) := by decide +kernel
theorem dM_hearsOf_15 : decode (hr_cd 122) 15 = .ok (.iconst 2, 1) := by decide +kernel
theorem dM_hearsOf_16 : decode (hr_cd 122) 16 = .ok (.iaload, 1) := by decide +kernel
theorem dM_hearsOf_17 : decode (hr_cd 122) 17 = .ok (.iadd, 1) := by decide +kernel
theorem dM_hearsOf_18 : decode (hr_cd 122) 18 = .ok (.bipush 10, 2) := by decide +kernel
theorem dM_hearsOf_20 : decode (hr_cd 122) 20 = .ok (.if_icmp .lt 7, 3) := by decide +kernel
theorem dM_hearsOf_23 : decode (hr_cd 122) 23 = .ok (.iconst 1, 1) := by decide +kernel
theorem dM_hearsOf_24 : decode (hr_cd 122) 24 = .ok (.goto 4, 3) := by decide +kernel
theorem dM_hearsOf_27 : decode (hr_cd 122) 27 = .ok (.iconst 0, 1) := by decide +kernel
theorem dM_hearsOf_28 : decode (hr_cd 122) 28 = .ok (.ireturn, 1) := by decide +kernel
theorem dM_soundsAt_0 : decode (hr_cd 123) 0 = .ok (.aload_n 0, 1) := by decide +kernel
theorem dM_soundsAt_1 : decode (hr_cd 123) 1 = .ok (.iload_n 1, 1) := by decide +kernel
theorem dM_soundsAt_2 : decode (hr_cd 123) 2 = .ok (.iconst 1, 1) := by decide +kernel
theorem dM_soundsAt_3 : decode (hr_cd 123) 3 = .ok (.invokevirtual 53, 3) := by decide +kernel
theorem dM_soundsAt_6 : decode (hr_cd 123) 6 = .ok (.iload_n 2, 1) := by decide +kernel
theorem dM_soundsAt_7 : decode (hr_cd 123) 7 = .ok (.invokestatic 57, 3) := by decide +kernel
theorem dM_soundsAt_10 : decode (hr_cd 123) 10 = .ok (.istore_n 3, 1) := by decide +kernel
theorem dM_soundsAt_11 : decode (hr_cd 123) 11 = .ok (.aload_n 0, 1) := by decide +kernel
theorem dM_soundsAt_12 : decode (hr_cd 123) 12 = .ok (.iload_n 1, 1) := by decide +kernel
theorem dM_soundsAt_13 : decode (hr_cd 123) 13 = .ok (.iconst 2, 1) := by decide +kernel
theorem dM_soundsAt_14 : decode (hr_cd 123) 14 = .ok (.invokevirtual 53, 3) := by decide +kernel
theorem dM_soundsAt_17 : decode (hr_cd 123) 17 = .ok (.iconst 1, 1) := by decide +kernel
theorem dM_soundsAt_18 : decode (hr_cd 123) 18 = .ok (.iload_n 3, 1) := by decide +kernel
theorem dM_soundsAt_19 : decode (hr_cd 123) 19 = .ok (.iadd, 1) := by decide +kernel
theorem dM_soundsAt_20 : decode (hr_cd 123) 20 = .ok (.idiv, 1) := by decide +kernel
theorem dM_soundsAt_21 : decode (hr_cd 123) 21 = .ok (.istore 4, 2) := by decide +kernel
theorem dM_soundsAt_23 : decode (hr_cd 123) 23 = .ok (.iload_n 3, 1) := by decide +kernel
theorem dM_soundsAt_24 : decode (hr_cd 123) 24 = .ok (.iconst 3, 1) := by decide +kernel
theorem dM_soundsAt_25 : decode (hr_cd 123) 25 = .ok (.if_icmp .gt 15, 3) := by decide +kernel
theorem dM_soundsAt_28 : decode (hr_cd 123) 28 = .ok (.iload 4, 2) := by decide +kernel
theorem dM_soundsAt_30 : decode (hr_cd 123) 30 = .ok (.aload_n 0, 1) := by decide +kernel
theorem dM_soundsAt_31 : decode (hr_cd 123) 31 = .ok (.iload_n 1, 1) := by decide +kernel
theorem dM_soundsAt_32 : decode (hr_cd 123) 32 = .ok (.iconst 3, 1) := by decide +kernel
theorem dM_soundsAt_33 : decode (hr_cd 123) 33 = .ok (.invokevirtual 53, 3) := by decide +kernel
theorem dM_soundsAt_36 : decode (hr_cd 123) 36 = .ok (.iadd, 1) := by decide +kernel
theorem dM_soundsAt_37 : decode (hr_cd 123) 37 = .ok (.goto 5, 3) := by decide +kernel
theorem dM_soundsAt_40 : decode (hr_cd 123) 40 = .ok (.iload 4, 2) := by decide +kernel
theorem dM_soundsAt_42 : decode (hr_cd 123) 42 = .ok (.istore 5, 2) := by decide +kernel
theorem dM_soundsAt_44 : decode (hr_cd 123) 44 = .ok (.aload_n 0, 1) := by decide +kernel
theorem dM_soundsAt_45 : decode (hr_cd 123) 45 = .ok (.getfield 9, 3) := by decide +kernel
theorem dM_soundsAt_48 : decode (hr_cd 123) 48 = .ok (.iconst 0, 1) := by decide +kernel
theorem dM_soundsAt_49 : decode (hr_cd 123) 49 = .ok (.iaload, 1) := by decide +kernel
theorem dM_soundsAt_50 : decode (hr_cd 123) 50 = .ok (.iconst 2, 1) := by decide +kernel
theorem dM_soundsAt_51 : decode (hr_cd 123) 51 = .ok (.irem, 1) := by decide +kernel
theorem dM_soundsAt_52 : decode (hr_cd 123) 52 = .ok (.iconst 1, 1) := by decide +kernel
theorem dM_soundsAt_53 : decode (hr_cd 123) 53 = .ok (.if_icmp .ne 7, 3) := by decide +kernel
theorem dM_soundsAt_56 : decode (hr_cd 123) 56 = .ok (.iconst 0, 1) := by decide +kernel
theorem dM_soundsAt_57 : decode (hr_cd 123) 57 = .ok (.goto 5, 3) := by decide +kernel
theorem dM_soundsAt_60 : decode (hr_cd 123) 60 = .ok (.iload 4, 2) := by decide +kernel
theorem dM_soundsAt_62 : decode (hr_cd 123) 62 = .ok (.istore 6, 2) := by decide +kernel
theorem dM_soundsAt_64 : decode (hr_cd 123) 64 = .ok (.aload_n 0, 1) := by decide +kernel
theorem dM_soundsAt_65 : decode (hr_cd 123) 65 = .ok (.iload_n 1, 1) := by decide +kernel
theorem dM_soundsAt_66 : decode (hr_cd 123) 66 = .ok (.iconst 4, 1) := by decide +kernel
theorem dM_soundsAt_67 : decode (hr_cd 123) 67 = .ok (.invokevirtual 53, 3) := by decide +kernel
theorem dM_soundsAt_70 : decode (hr_cd 123) 70 = .ok (.iconst 1, 1) := by decide +kernel
theorem dM_soundsAt_71 : decode (hr_cd 123) 71 = .ok (.if_icmp .ne 5, 3) := by decide +kernel
theorem dM_soundsAt_74 : decode (hr_cd 123) 74 = .ok (.iconst 0, 1) := by decide +kernel
theorem dM_soundsAt_75 : decode (hr_cd 123) 75 = .ok (.ireturn, 1) := by decide +kernel
theorem dM_soundsAt_76 : decode (hr_cd 123) 76 = .ok (.aload_n 0, 1) := by decide +kernel
theorem dM_soundsAt_77 : decode (hr_cd 123) 77 = .ok (.iload_n 1, 1) := by decide +kernel
theorem dM_soundsAt_78 : decode (hr_cd 123) 78 = .ok (.iconst 0, 1) := by decide +kernel
theorem dM_soundsAt_79 : decode (hr_cd 123) 79 = .ok (.invokevirtual 53, 3) := by decide +kernel
theorem dM_soundsAt_82 : decode (hr_cd 123) 82 = .ok (.tableswitch 83 1 5 #[34, 37, 40, 47, 68], 34) := by decide +kernel
theorem dM_soundsAt_116 : decode (hr_cd 123) 116 = .ok (.iload 5, 2) := by decide +kernel
theorem dM_soundsAt_118 : decode (hr_cd 123) 118 = .ok (.ireturn, 1) := by decide +kernel
theorem dM_soundsAt_119 : decode (hr_cd 123) 119 = .ok (.iload 6, 2) := by decide +kernel
theorem dM_soundsAt_121 : decode (hr_cd 123) 121 = .ok (.ireturn, 1) := by decide +kernel
theorem dM_soundsAt_122 : decode (hr_cd 123) 122 = .ok (.aload_n 0, 1) := by decide +kernel
theorem dM_soundsAt_123 : decode (hr_cd 123) 123 = .ok (.iload_n 1, 1) := by decide +kernel
theorem dM_soundsAt_124 : decode (hr_cd 123) 124 = .ok (.iconst 2, 1) := by decide +kernel
theorem dM_soundsAt_125 : decode (hr_cd 123) 125 = .ok (.invokevirtual 53, 3) := by decide +kernel
theorem dM_soundsAt_128 : decode (hr_cd 123) 128 = .ok (.ireturn, 1) := by decide +kernel
theorem dM_soundsAt_129 : decode (hr_cd 123) 129 = .ok (.aload_n 0, 1) := by decide +kernel
theorem dM_soundsAt_130 : decode (hr_cd 123) 130 = .ok (.getfield 9, 3) := by decide +kernel
theorem dM_soundsAt_133 : decode (hr_cd 123) 133 = .ok (.iconst 0, 1) := by decide +kernel
theorem dM_soundsAt_134 : decode (hr_cd 123) 134 = .ok (.iaload, 1) := by decide +kernel
theorem dM_soundsAt_135 : decode (hr_cd 123) 135 = .ok (.iconst 4, 1) := by decide +kernel
theorem dM_soundsAt_136 : decode (hr_cd 123) 136 = .ok (.irem, 1) := by decide +kernel
theorem dM_soundsAt_137 : decode (hr_cd 123) 137 = .ok (.ifCond .ne 10, 3) := by decide +kernel
theorem dM_soundsAt_140 : decode (hr_cd 123) 140 = .ok (.iconst 2, 1) := by decide +kernel
theorem dM_soundsAt_141 : decode (hr_cd 123) 141 = .ok (.iload 5, 2) := by decide +kernel
theorem dM_soundsAt_143 : decode (hr_cd 123) 143 = .ok (.imul, 1) := by decide +kernel
theorem dM_soundsAt_144 : decode (hr_cd 123) 144 = .ok (.goto 5, 3) := by decide +kernel
theorem dM_soundsAt_147 : decode (hr_cd 123) 147 = .ok (.iload 5, 2) := by decide +kernel
theorem dM_soundsAt_149 : decode (hr_cd 123) 149 = .ok (.ireturn, 1) := by decide +kernel
theorem dM_soundsAt_150 : decode (hr_cd 123) 150 = .ok (.iload 6, 2) := by decide +kernel
theorem dM_soundsAt_152 : decode (hr_cd 123) 152 = .ok (.iload_n 3, 1) := by decide +kernel
theorem dM_soundsAt_153 : decode (hr_cd 123) 153 = .ok (.if_icmp .le 10, 3) := by decide +kernel
theorem dM_soundsAt_156 : decode (hr_cd 123) 156 = .ok (.iload 6, 2) := by decide +kernel
theorem dM_soundsAt_158 : decode (hr_cd 123) 158 = .ok (.iload_n 3, 1) := by decide +kernel
theorem dM_soundsAt_159 : decode (hr_cd 123) 159 = .ok (.isub, 1) := by decide +kernel
theorem dM_soundsAt_160 : decode (hr_cd 123) 160 = .ok (.goto 4, 3) := by decide +kernel
theorem dM_soundsAt_163 : decode (hr_cd 123) 163 = .ok (.iconst 0, 1) := by decide +kernel
theorem dM_soundsAt_164 : decode (hr_cd 123) 164 = .ok (.ireturn, 1) := by decide +kernel
theorem dM_soundsAt_165 : decode (hr_cd 123) 165 = .ok (.iload 4, 2) := by decide +kernel
theorem dM_soundsAt_167 : decode (hr_cd 123) 167 = .ok (.ireturn, 1) := by decide +kernel
theorem dM_get_0 : decode (hr_cd 124) 0 = .ok (.aload_n 0, 1) := by decide +kernel
theorem dM_get_1 : decode (hr_cd 124) 1 = .ok (.getfield 9, 3) := by decide +kernel
theorem dM_get_4 : decode (hr_cd 124) 4 = .ok (.bipush 6, 2) := by decide +kernel
theorem dM_get_6 : decode (hr_cd 124) 6 = .ok (.iconst 5, 1) := by decide +kernel
theorem dM_get_7 : decode (hr_cd 124) 7 = .ok (.iload_n 1, 1) := by decide +kernel
theorem dM_get_8 : decode (hr_cd 124) 8 = .ok (.imul, 1) := by decide +kernel
theorem dM_get_9 : decode (hr_cd 124) 9 = .ok (.iadd, 1) := by decide +kernel
theorem dM_get_10 : decode (hr_cd 124) 10 = .ok (.iload_n 2, 1) := by decide +kernel
theorem dM_get_11 : decode (hr_cd 124) 11 = .ok (.iadd, 1) := by decide +kernel
theorem dM_get_12 : decode (hr_cd 124) 12 = .ok (.iaload, 1) := by decide +kernel
theorem dM_get_13 : decode (hr_cd 124) 13 = .ok (.ireturn, 1) := by decide +kernel
theorem dM_farOf_0 : decode (hr_cd 125) 0 = .ok (.iload_n 0, 1) := by decide +kernel
theorem dM_farOf_1 : decode (hr_cd 125) 1 = .ok (.bipush 8, 2) := by decide +kernel
theorem dM_farOf_3 : decode (hr_cd 125) 3 = .ok (.idiv, 1) := by decide +kernel
theorem dM_farOf_4 : decode (hr_cd 125) 4 = .ok (.iload_n 1, 1) := by decide +kernel
theorem dM_farOf_5 : decode (hr_cd 125) 5 = .ok (.bipush 8, 2) := by decide +kernel
theorem dM_farOf_7 : decode (hr_cd 125) 7 = .ok (.idiv, 1) := by decide +kernel
theorem dM_farOf_8 : decode (hr_cd 125) 8 = .ok (.isub, 1) := by decide +kernel
theorem dM_farOf_9 : decode (hr_cd 125) 9 = .ok (.istore_n 2, 1) := by decide +kernel
theorem dM_farOf_10 : decode (hr_cd 125) 10 = .ok (.iload_n 0, 1) := by decide +kernel
theorem dM_farOf_11 : decode (hr_cd 125) 11 = .ok (.bipush 8, 2) := by decide +kernel
theorem dM_farOf_13 : decode (hr_cd 125) 13 = .ok (.irem, 1) := by decide +kernel
theorem dM_farOf_14 : decode (hr_cd 125) 14 = .ok (.iload_n 1, 1) := by decide +kernel
theorem dM_farOf_15 : decode (hr_cd 125) 15 = .ok (.bipush 8, 2) := by decide +kernel
theorem dM_farOf_17 : decode (hr_cd 125) 17 = .ok (.irem, 1) := by decide +kernel
theorem dM_farOf_18 : decode (hr_cd 125) 18 = .ok (.isub, 1) := by decide +kernel
theorem dM_farOf_19 : decode (hr_cd 125) 19 = .ok (.istore_n 3, 1) := by decide +kernel
theorem dM_farOf_20 : decode (hr_cd 125) 20 = .ok (.iload_n 2, 1) := by decide +kernel
theorem dM_farOf_21 : decode (hr_cd 125) 21 = .ok (.ifCond .ge 8, 3) := by decide +kernel
theorem dM_farOf_24 : decode (hr_cd 125) 24 = .ok (.iload_n 2, 1) := by decide +kernel
theorem dM_farOf_25 : decode (hr_cd 125) 25 = .ok (.ineg, 1) := by decide +kernel
theorem dM_farOf_26 : decode (hr_cd 125) 26 = .ok (.goto 4, 3) := by decide +kernel
theorem dM_farOf_29 : decode (hr_cd 125) 29 = .ok (.iload_n 2, 1) := by decide +kernel
theorem dM_farOf_30 : decode (hr_cd 125) 30 = .ok (.iload_n 3, 1) := by decide +kernel
theorem dM_farOf_31 : decode (hr_cd 125) 31 = .ok (.ifCond .ge 8, 3) := by decide +kernel
theorem dM_farOf_34 : decode (hr_cd 125) 34 = .ok (.iload_n 3, 1) := by decide +kernel
theorem dM_farOf_35 : decode (hr_cd 125) 35 = .ok (.ineg, 1) := by decide +kernel
theorem dM_farOf_36 : decode (hr_cd 125) 36 = .ok (.goto 4, 3) := by decide +kernel
theorem dM_farOf_39 : decode (hr_cd 125) 39 = .ok (.iload_n 3, 1) := by decide +kernel
theorem dM_farOf_40 : decode (hr_cd 125) 40 = .ok (.iadd, 1) := by decide +kernel
theorem dM_farOf_41 : decode (hr_cd 125) 41 = .ok (.ireturn, 1) := by decide +kernel
theorem dM_guide_0 : decode (hr_cd 126) 0 = .ok (.iconst (-1), 1) := by decide +kernel
theorem dM_guide_1 : decode (hr_cd 126) 1 = .ok (.istore_n 1, 1) := by decide +kernel
theorem dM_guide_2 : decode (hr_cd 126) 2 = .ok (.iconst (-1), 1) := by decide +kernel
theorem dM_guide_3 : decode (hr_cd 126) 3 = .ok (.istore_n 2, 1) := by decide +kernel
theorem dM_guide_4 : decode (hr_cd 126) 4 = .ok (.iconst 0, 1) := by decide +kernel
theorem dM_guide_5 : decode (hr_cd 126) 5 = .ok (.istore_n 3, 1) := by decide +kernel
theorem dM_guide_6 : decode (hr_cd 126) 6 = .ok (.iload_n 3, 1) := by decide +kernel
theorem dM_guide_7 : decode (hr_cd 126) 7 = .ok (.aload_n 0, 1) := by decide +kernel
theorem dM_guide_8 : decode (hr_cd 126) 8 = .ok (.getfield 9, 3) := by decide +kernel
theorem dM_guide_11 : decode (hr_cd 126) 11 = .ok (.iconst 5, 1) := by decide +kernel
theorem dM_guide_12 : decode (hr_cd 126) 12 = .ok (.iaload, 1) := by decide +kernel
theorem dM_guide_13 : decode (hr_cd 126) 13 = .ok (.if_icmp .ge 89, 3) := by decide +kernel
theorem dM_guide_16 : decode (hr_cd 126) 16 = .ok (.aload_n 0, 1) := by decide +kernel
theorem dM_guide_17 : decode (hr_cd 126) 17 = .ok (.getfield 9, 3) := by decide +kernel
theorem dM_guide_20 : decode (hr_cd 126) 20 = .ok (.iconst 3, 1) := by decide +kernel
theorem dM_guide_21 : decode (hr_cd 126) 21 = .ok (.iaload, 1) := by decide +kernel
theorem dM_guide_22 : decode (hr_cd 126) 22 = .ok (.ifCond .ne 17, 3) := by decide +kernel
theorem dM_guide_25 : decode (hr_cd 126) 25 = .ok (.aload_n 0, 1) := by decide +kernel
theorem dM_guide_26 : decode (hr_cd 126) 26 = .ok (.iload_n 3, 1) := by decide +kernel
theorem dM_guide_27 : decode (hr_cd 126) 27 = .ok (.aload_n 0, 1) := by decide +kernel
theorem dM_guide_28 : decode (hr_cd 126) 28 = .ok (.getfield 9, 3) := by decide +kernel
theorem dM_guide_31 : decode (hr_cd 126) 31 = .ok (.iconst 1, 1) := by decide +kernel
theorem dM_guide_32 : decode (hr_cd 126) 32 = .ok (.iaload, 1) := by decide +kernel
theorem dM_guide_33 : decode (hr_cd 126) 33 = .ok (.invokevirtual 60, 3) := by decide +kernel
theorem dM_guide_36 : decode (hr_cd 126) 36 = .ok (.goto 14, 3) := by decide +kernel
theorem dM_guide_39 : decode (hr_cd 126) 39 = .ok (.aload_n 0, 1) := by decide +kernel
theorem dM_guide_40 : decode (hr_cd 126) 40 = .ok (.iload_n 3, 1) := by decide +kernel
theorem dM_guide_41 : decode (hr_cd 126) 41 = .ok (.aload_n 0, 1) := by decide +kernel
theorem dM_guide_42 : decode (hr_cd 126) 42 = .ok (.getfield 9, 3) := by decide +kernel
theorem dM_guide_45 : decode (hr_cd 126) 45 = .ok (.iconst 1, 1) := by decide +kernel
theorem dM_guide_46 : decode (hr_cd 126) 46 = .ok (.iaload, 1) := by decide +kernel
theorem dM_guide_47 : decode (hr_cd 126) 47 = .ok (.invokevirtual 63, 3) := by decide +kernel
theorem dM_guide_50 : decode (hr_cd 126) 50 = .ok (.istore 4, 2) := by decide +kernel
theorem dM_guide_52 : decode (hr_cd 126) 52 = .ok (.aload_n 0, 1) := by decide +kernel
theorem dM_guide_53 : decode (hr_cd 126) 53 = .ok (.iload_n 3, 1) := by decide +kernel
theorem dM_guide_54 : decode (hr_cd 126) 54 = .ok (.invokevirtual 66, 3) := by decide +kernel
theorem dM_guide_57 : decode (hr_cd 126) 57 = .ok (.ifCond .eq 13, 3) := by decide +kernel
theorem dM_guide_60 : decode (hr_cd 126) 60 = .ok (.iload 4, 2) := by decide +kernel
theorem dM_guide_62 : decode (hr_cd 126) 62 = .ok (.iload_n 2, 1) := by decide +kernel
theorem dM_guide_63 : decode (hr_cd 126) 63 = .ok (.if_icmp .le 7, 3) := by decide +kernel
theorem dM_guide_66 : decode (hr_cd 126) 66 = .ok (.iconst 1, 1) := by decide +kernel
theorem dM_guide_67 : decode (hr_cd 126) 67 = .ok (.goto 4, 3) := by decide +kernel
theorem dM_guide_70 : decode (hr_cd 126) 70 = .ok (.iconst 0, 1) := by decide +kernel
theorem dM_guide_71 : decode (hr_cd 126) 71 = .ok (.istore 5, 2) := by decide +kernel
theorem dM_guide_73 : decode (hr_cd 126) 73 = .ok (.iload 5, 2) := by decide +kernel
theorem dM_guide_75 : decode (hr_cd 126) 75 = .ok (.ifCond .eq 7, 3) := by decide +kernel
theorem dM_guide_78 : decode (hr_cd 126) 78 = .ok (.iload_n 3, 1) := by decide +kernel
theorem dM_guide_79 : decode (hr_cd 126) 79 = .ok (.goto 4, 3) := by decide +kernel
theorem dM_guide_82 : decode (hr_cd 126) 82 = .ok (.iload_n 1, 1) := by decide +kernel
theorem dM_guide_83 : decode (hr_cd 126) 83 = .ok (.istore_n 1, 1) := by decide +kernel
theorem dM_guide_84 : decode (hr_cd 126) 84 = .ok (.iload 5, 2) := by decide +kernel
theorem dM_guide_86 : decode (hr_cd 126) 86 = .ok (.ifCond .eq 8, 3) := by decide +kernel
theorem dM_guide_89 : decode (hr_cd 126) 89 = .ok (.iload 4, 2) := by decide +kernel
theorem dM_guide_91 : decode (hr_cd 126) 91 = .ok (.goto 4, 3) := by decide +kernel
theorem dM_guide_94 : decode (hr_cd 126) 94 = .ok (.iload_n 2, 1) := by decide +kernel
theorem dM_guide_95 : decode (hr_cd 126) 95 = .ok (.istore_n 2, 1) := by decide +kernel
theorem dM_guide_96 : decode (hr_cd 126) 96 = .ok (.iinc 3 1, 3) := by decide +kernel
theorem dM_guide_99 : decode (hr_cd 126) 99 = .ok (.goto (-93), 3) := by decide +kernel
theorem dM_guide_102 : decode (hr_cd 126) 102 = .ok (.iload_n 1, 1) := by decide +kernel
theorem dM_guide_103 : decode (hr_cd 126) 103 = .ok (.ireturn, 1) := by decide +kernel
theorem dM_luresAt_0 : decode (hr_cd 127) 0 = .ok (.aload_n 0, 1) := by decide +kernel
theorem dM_luresAt_1 : decode (hr_cd 127) 1 = .ok (.iload_n 1, 1) := by decide +kernel
theorem dM_luresAt_2 : decode (hr_cd 127) 2 = .ok (.iconst 1, 1) := by decide +kernel
theorem dM_luresAt_3 : decode (hr_cd 127) 3 = .ok (.invokevirtual 53, 3) := by decide +kernel
theorem dM_luresAt_6 : decode (hr_cd 127) 6 = .ok (.iload_n 2, 1) := by decide +kernel
theorem dM_luresAt_7 : decode (hr_cd 127) 7 = .ok (.invokestatic 57, 3) := by decide +kernel
theorem dM_luresAt_10 : decode (hr_cd 127) 10 = .ok (.istore_n 3, 1) := by decide +kernel
theorem dM_luresAt_11 : decode (hr_cd 127) 11 = .ok (.aload_n 0, 1) := by decide +kernel
theorem dM_luresAt_12 : decode (hr_cd 127) 12 = .ok (.iload_n 1, 1) := by decide +kernel
theorem dM_luresAt_13 : decode (hr_cd 127) 13 = .ok (.iconst 3, 1) := by decide +kernel
theorem dM_luresAt_14 : decode (hr_cd 127) 14 = .ok (.invokevirtual 53, 3) := by decide +kernel
theorem dM_luresAt_17 : decode (hr_cd 127) 17 = .ok (.istore 4, 2) := by decide +kernel
theorem dM_luresAt_19 : decode (hr_cd 127) 19 = .ok (.iload 4, 2) := by decide +kernel
theorem dM_luresAt_21 : decode (hr_cd 127) 21 = .ok (.iload_n 3, 1) := by decide +kernel
theorem dM_luresAt_22 : decode (hr_cd 127) 22 = .ok (.if_icmp .le 10, 3) := by decide +kernel
theorem dM_luresAt_25 : decode (hr_cd 127) 25 = .ok (.iload 4, 2) := by decide +kernel
theorem dM_luresAt_27 : decode (hr_cd 127) 27 = .ok (.iload_n 3, 1) := by decide +kernel
theorem dM_luresAt_28 : decode (hr_cd 127) 28 = .ok (.isub, 1) := by decide +kernel
theorem dM_luresAt_29 : decode (hr_cd 127) 29 = .ok (.goto 4, 3) := by decide +kernel
theorem dM_luresAt_32 : decode (hr_cd 127) 32 = .ok (.iconst 0, 1) := by decide +kernel
theorem dM_luresAt_33 : decode (hr_cd 127) 33 = .ok (.istore 5, 2) := by decide +kernel
theorem dM_luresAt_35 : decode (hr_cd 127) 35 = .ok (.aload_n 0, 1) := by decide +kernel
theorem dM_luresAt_36 : decode (hr_cd 127) 36 = .ok (.iload_n 1, 1) := by decide +kernel
theorem dM_luresAt_37 : decode (hr_cd 127) 37 = .ok (.iconst 4, 1) := by decide +kernel
theorem dM_luresAt_38 : decode (hr_cd 127) 38 = .ok (.invokevirtual 53, 3) := by decide +kernel
theorem dM_luresAt_41 : decode (hr_cd 127) 41 = .ok (.iconst 1, 1) := by decide +kernel
theorem dM_luresAt_42 : decode (hr_cd 127) 42 = .ok (.if_icmp .ne 5, 3) := by decide +kernel
theorem dM_luresAt_45 : decode (hr_cd 127) 45 = .ok (.iconst 0, 1) := by decide +kernel
theorem dM_luresAt_46 : decode (hr_cd 127) 46 = .ok (.ireturn, 1) := by decide +kernel
theorem dM_luresAt_47 : decode (hr_cd 127) 47 = .ok (.aload_n 0, 1) := by decide +kernel
theorem dM_luresAt_48 : decode (hr_cd 127) 48 = .ok (.iload_n 1, 1) := by decide +kernel
theorem dM_luresAt_49 : decode (hr_cd 127) 49 = .ok (.iconst 0, 1) := by decide +kernel
theorem dM_luresAt_50 : decode (hr_cd 127) 50 = .ok (.invokevirtual 53, 3) := by decide +kernel
theorem dM_luresAt_53 : decode (hr_cd 127) 53 = .ok (.tableswitch 65 1 5 #[35, 40, 43, 45, 60], 35) := by decide +kernel
theorem dM_luresAt_88 : decode (hr_cd 127) 88 = .ok (.iload 4, 2) := by decide +kernel
theorem dM_luresAt_90 : decode (hr_cd 127) 90 = .ok (.iconst 3, 1) := by decide +kernel
theorem dM_luresAt_91 : decode (hr_cd 127) 91 = .ok (.iadd, 1) := by decide +kernel
theorem dM_luresAt_92 : decode (hr_cd 127) 92 = .ok (.ireturn, 1) := by decide +kernel
theorem dM_luresAt_93 : decode (hr_cd 127) 93 = .ok (.iload 5, 2) := by decide +kernel
theorem dM_luresAt_95 : decode (hr_cd 127) 95 = .ok (.ireturn, 1) := by decide +kernel
theorem dM_luresAt_96 : decode (hr_cd 127) 96 = .ok (.iconst 0, 1) := by decide +kernel
theorem dM_luresAt_97 : decode (hr_cd 127) 97 = .ok (.ireturn, 1) := by decide +kernel
theorem dM_luresAt_98 : decode (hr_cd 127) 98 = .ok (.iload 4, 2) := by decide +kernel
theorem dM_luresAt_100 : decode (hr_cd 127) 100 = .ok (.iconst 3, 1) := by decide +kernel
theorem dM_luresAt_101 : decode (hr_cd 127) 101 = .ok (.iadd, 1) := by decide +kernel
theorem dM_luresAt_102 : decode (hr_cd 127) 102 = .ok (.aload_n 0, 1) := by decide +kernel
theorem dM_luresAt_103 : decode (hr_cd 127) 103 = .ok (.iload_n 1, 1) := by decide +kernel
theorem dM_luresAt_104 : decode (hr_cd 127) 104 = .ok (.iconst 2, 1) := by decide +kernel
theorem dM_luresAt_105 : decode (hr_cd 127) 105 = .ok (.invokevirtual 53, 3) := by decide +kernel
theorem dM_luresAt_108 : decode (hr_cd 127) 108 = .ok (.bipush 10, 2) := by decide +kernel
theorem dM_luresAt_110 : decode (hr_cd 127) 110 = .ok (.idiv, 1) := by decide +kernel
theorem dM_luresAt_111 : decode (hr_cd 127) 111 = .ok (.iadd, 1) := by decide +kernel
theorem dM_luresAt_112 : decode (hr_cd 127) 112 = .ok (.ireturn, 1) := by decide +kernel
theorem dM_luresAt_113 : decode (hr_cd 127) 113 = .ok (.iload 5, 2) := by decide +kernel
theorem dM_luresAt_115 : decode (hr_cd 127) 115 = .ok (.iconst 1, 1) := by decide +kernel
theorem dM_luresAt_116 : decode (hr_cd 127) 116 = .ok (.iadd, 1) := by decide +kernel
theorem dM_luresAt_117 : decode (hr_cd 127) 117 = .ok (.ireturn, 1) := by decide +kernel
theorem dM_luresAt_118 : decode (hr_cd 127) 118 = .ok (.iload 4, 2) := by decide +kernel
theorem dM_luresAt_120 : decode (hr_cd 127) 120 = .ok (.ireturn, 1) := by decide +kernel
theorem dM_rock_0 : decode (hr_cd 128) 0 = .ok (.iload_n 1, 1) := by decide +kernel
theorem dM_rock_1 : decode (hr_cd 128) 1 = .ok (.iconst 0, 1) := by decide +kernel
theorem dM_rock_2 : decode (hr_cd 128) 2 = .ok (.iconst 5, 1) := by decide +kernel
theorem dM_rock_3 : decode (hr_cd 128) 3 = .ok (.invokestatic 49, 3) := by decide +kernel
theorem dM_rock_6 : decode (hr_cd 128) 6 = .ok (.ifCond .eq 10, 3) := by decide +kernel
theorem dM_rock_9 : decode (hr_cd 128) 9 = .ok (.iload_n 2, 1) := by decide +kernel
theorem dM_rock_10 : decode (hr_cd 128) 10 = .ok (.invokestatic 107, 3) := by decide +kernel
theorem dM_rock_13 : decode (hr_cd 128) 13 = .ok (.ifCond .ne 9, 3) := by decide +kernel
theorem dM_rock_16 : decode (hr_cd 128) 16 = .ok (.aload_n 0, 1) := by decide +kernel
theorem dM_rock_17 : decode (hr_cd 128) 17 = .ok (.iconst 0, 1) := by decide +kernel
theorem dM_rock_18 : decode (hr_cd 128) 18 = .ok (.invokevirtual 98, 3) := by decide +kernel
theorem dM_rock_21 : decode (hr_cd 128) 21 = .ok (.ireturn, 1) := by decide +kernel
theorem dM_rock_22 : decode (hr_cd 128) 22 = .ok (.aload_n 0, 1) := by decide +kernel
theorem dM_rock_23 : decode (hr_cd 128) 23 = .ok (.getfield 9, 3) := by decide +kernel
theorem dM_rock_26 : decode (hr_cd 128) 26 = .ok (.iconst 5, 1) := by decide +kernel
theorem dM_rock_27 : decode (hr_cd 128) 27 = .ok (.iaload, 1) := by decide +kernel
theorem dM_rock_28 : decode (hr_cd 128) 28 = .ok (.bipush 8, 2) := by decide +kernel
theorem dM_rock_30 : decode (hr_cd 128) 30 = .ok (.if_icmp .ne 9, 3) := by decide +kernel
theorem dM_rock_33 : decode (hr_cd 128) 33 = .ok (.aload_n 0, 1) := by decide +kernel
theorem dM_rock_34 : decode (hr_cd 128) 34 = .ok (.iconst 1, 1) := by decide +kernel
theorem dM_rock_35 : decode (hr_cd 128) 35 = .ok (.invokevirtual 98, 3) := by decide +kernel
theorem dM_rock_38 : decode (hr_cd 128) 38 = .ok (.ireturn, 1) := by decide +kernel
theorem dM_rock_39 : decode (hr_cd 128) 39 = .ok (.aload_n 0, 1) := by decide +kernel
theorem dM_rock_40 : decode (hr_cd 128) 40 = .ok (.iload_n 1, 1) := by decide +kernel
theorem dM_rock_41 : decode (hr_cd 128) 41 = .ok (.iload_n 2, 1) := by decide +kernel
theorem dM_rock_42 : decode (hr_cd 128) 42 = .ok (.invokevirtual 110, 3) := by decide +kernel
theorem dM_rock_45 : decode (hr_cd 128) 45 = .ok (.aload_n 0, 1) := by decide +kernel
theorem dM_rock_46 : decode (hr_cd 128) 46 = .ok (.getfield 9, 3) := by decide +kernel
theorem dM_rock_49 : decode (hr_cd 128) 49 = .ok (.iconst 5, 1) := by decide +kernel
theorem dM_rock_50 : decode (hr_cd 128) 50 = .ok (.iaload, 1) := by decide +kernel
theorem dM_rock_51 : decode (hr_cd 128) 51 = .ok (.iconst 1, 1) := by decide +kernel
theorem dM_rock_52 : decode (hr_cd 128) 52 = .ok (.isub, 1) := by decide +kernel
theorem dM_rock_53 : decode (hr_cd 128) 53 = .ok (.ireturn, 1) := by decide +kernel
theorem dM_isSquare_0 : decode (hr_cd 129) 0 = .ok (.iload_n 0, 1) := by decide +kernel
theorem dM_isSquare_1 : decode (hr_cd 129) 1 = .ok (.iconst 0, 1) := by decide +kernel
theorem dM_isSquare_2 : decode (hr_cd 129) 2 = .ok (.bipush 63, 2) := by decide +kernel
theorem dM_isSquare_4 : decode (hr_cd 129) 4 = .ok (.invokestatic 49, 3) := by decide +kernel
theorem dM_isSquare_7 : decode (hr_cd 129) 7 = .ok (.ireturn, 1) := by decide +kernel
theorem dM_addsRock_0 : decode (hr_cd 130) 0 = .ok (.aload_n 0, 1) := by decide +kernel
theorem dM_addsRock_1 : decode (hr_cd 130) 1 = .ok (.getfield 9, 3) := by decide +kernel
theorem dM_addsRock_4 : decode (hr_cd 130) 4 = .ok (.iconst 5, 1) := by decide +kernel
theorem dM_addsRock_5 : decode (hr_cd 130) 5 = .ok (.iaload, 1) := by decide +kernel
theorem dM_addsRock_6 : decode (hr_cd 130) 6 = .ok (.istore_n 3, 1) := by decide +kernel
theorem dM_addsRock_7 : decode (hr_cd 130) 7 = .ok (.aload_n 0, 1) := by decide +kernel
theorem dM_addsRock_8 : decode (hr_cd 130) 8 = .ok (.iload_n 3, 1) := by decide +kernel
theorem dM_addsRock_9 : decode (hr_cd 130) 9 = .ok (.iconst 0, 1) := by decide +kernel
theorem dM_addsRock_10 : decode (hr_cd 130) 10 = .ok (.iload_n 1, 1) := by decide +kernel
theorem dM_addsRock_11 : decode (hr_cd 130) 11 = .ok (.invokevirtual 84, 3) := by decide +kernel
theorem dM_addsRock_14 : decode (hr_cd 130) 14 = .ok (.aload_n 0, 1) := by decide +kernel
theorem dM_addsRock_15 : decode (hr_cd 130) 15 = .ok (.iload_n 3, 1) := by decide +kernel
theorem dM_addsRock_16 : decode (hr_cd 130) 16 = .ok (.iconst 1, 1) := by decide +kernel
theorem dM_addsRock_17 : decode (hr_cd 130) 17 = .ok (.iload_n 2, 1) := by decide +kernel
theorem dM_addsRock_18 : decode (hr_cd 130) 18 = .ok (.invokevirtual 84, 3) := by decide +kernel
theorem dM_addsRock_21 : decode (hr_cd 130) 21 = .ok (.aload_n 0, 1) := by decide +kernel
theorem dM_addsRock_22 : decode (hr_cd 130) 22 = .ok (.iload_n 3, 1) := by decide +kernel
theorem dM_addsRock_23 : decode (hr_cd 130) 23 = .ok (.iconst 2, 1) := by decide +kernel
theorem dM_addsRock_24 : decode (hr_cd 130) 24 = .ok (.bipush 20, 2) := by decide +kernel
theorem dM_addsRock_26 : decode (hr_cd 130) 26 = .ok (.invokevirtual 84, 3) := by decide +kernel
theorem dM_addsRock_29 : decode (hr_cd 130) 29 = .ok (.aload_n 0, 1) := by decide +kernel
theorem dM_addsRock_30 : decode (hr_cd 130) 30 = .ok (.iload_n 3, 1) := by decide +kernel
theorem dM_addsRock_31 : decode (hr_cd 130) 31 = .ok (.iconst 3, 1) := by decide +kernel
theorem dM_addsRock_32 : decode (hr_cd 130) 32 = .ok (.iconst 5, 1) := by decide +kernel
theorem dM_addsRock_33 : decode (hr_cd 130) 33 = .ok (.invokevirtual 84, 3) := by decide +kernel
theorem dM_addsRock_36 : decode (hr_cd 130) 36 = .ok (.aload_n 0, 1) := by decide +kernel
theorem dM_addsRock_37 : decode (hr_cd 130) 37 = .ok (.iload_n 3, 1) := by decide +kernel
theorem dM_addsRock_38 : decode (hr_cd 130) 38 = .ok (.iconst 4, 1) := by decide +kernel
theorem dM_addsRock_39 : decode (hr_cd 130) 39 = .ok (.iconst 0, 1) := by decide +kernel
theorem dM_addsRock_40 : decode (hr_cd 130) 40 = .ok (.invokevirtual 84, 3) := by decide +kernel
theorem dM_addsRock_43 : decode (hr_cd 130) 43 = .ok (.aload_n 0, 1) := by decide +kernel
theorem dM_addsRock_44 : decode (hr_cd 130) 44 = .ok (.getfield 9, 3) := by decide +kernel
theorem dM_addsRock_47 : decode (hr_cd 130) 47 = .ok (.iconst 5, 1) := by decide +kernel
theorem dM_addsRock_48 : decode (hr_cd 130) 48 = .ok (.dup2, 1) := by decide +kernel
theorem dM_addsRock_49 : decode (hr_cd 130) 49 = .ok (.iaload, 1) := by decide +kernel
theorem dM_addsRock_50 : decode (hr_cd 130) 50 = .ok (.iconst 1, 1) := by decide +kernel
theorem dM_addsRock_51 : decode (hr_cd 130) 51 = .ok (.iadd, 1) := by decide +kernel
theorem dM_addsRock_52 : decode (hr_cd 130) 52 = .ok (.iastore, 1) := by decide +kernel
theorem dM_addsRock_53 : decode (hr_cd 130) 53 = .ok (.return_, 1) := by decide +kernel
theorem dM_puts_0 : decode (hr_cd 131) 0 = .ok (.aload_n 0, 1) := by decide +kernel
theorem dM_puts_1 : decode (hr_cd 131) 1 = .ok (.getfield 9, 3) := by decide +kernel
theorem dM_puts_4 : decode (hr_cd 131) 4 = .ok (.bipush 6, 2) := by decide +kernel
theorem dM_puts_6 : decode (hr_cd 131) 6 = .ok (.iconst 5, 1) := by decide +kernel
theorem dM_puts_7 : decode (hr_cd 131) 7 = .ok (.iload_n 1, 1) := by decide +kernel
theorem dM_puts_8 : decode (hr_cd 131) 8 = .ok (.imul, 1) := by decide +kernel
theorem dM_puts_9 : decode (hr_cd 131) 9 = .ok (.iadd, 1) := by decide +kernel
theorem dM_puts_10 : decode (hr_cd 131) 10 = .ok (.iload_n 2, 1) := by decide +kernel
theorem dM_puts_11 : decode (hr_cd 131) 11 = .ok (.iadd, 1) := by decide +kernel
theorem dM_puts_12 : decode (hr_cd 131) 12 = .ok (.iload_n 3, 1) := by decide +kernel
theorem dM_puts_13 : decode (hr_cd 131) 13 = .ok (.iastore, 1) := by decide +kernel
theorem dM_puts_14 : decode (hr_cd 131) 14 = .ok (.return_, 1) := by decide +kernel
theorem dM_of_0 : decode (hr_cd 132) 0 = .ok (.aload_n 0, 1) := by decide +kernel
theorem dM_of_1 : decode (hr_cd 132) 1 = .ok (.iload_n 1, 1) := by decide +kernel
theorem dM_of_2 : decode (hr_cd 132) 2 = .ok (.invokevirtual 114, 3) := by decide +kernel
theorem dM_of_5 : decode (hr_cd 132) 5 = .ok (.ifCond .eq 13, 3) := by decide +kernel
theorem dM_of_8 : decode (hr_cd 132) 8 = .ok (.iload_n 2, 1) := by decide +kernel
theorem dM_of_9 : decode (hr_cd 132) 9 = .ok (.iconst 0, 1) := by decide +kernel
theorem dM_of_10 : decode (hr_cd 132) 10 = .ok (.bipush 8, 2) := by decide +kernel
theorem dM_of_12 : decode (hr_cd 132) 12 = .ok (.invokestatic 49, 3) := by decide +kernel
theorem dM_of_15 : decode (hr_cd 132) 15 = .ok (.ifCond .ne 9, 3) := by decide +kernel
theorem dM_of_18 : decode (hr_cd 132) 18 = .ok (.aload_n 0, 1) := by decide +kernel
theorem dM_of_19 : decode (hr_cd 132) 19 = .ok (.iconst 0, 1) := by decide +kernel
theorem dM_of_20 : decode (hr_cd 132) 20 = .ok (.invokevirtual 98, 3) := by decide +kernel
theorem dM_of_23 : decode (hr_cd 132) 23 = .ok (.ireturn, 1) := by decide +kernel
theorem dM_of_24 : decode (hr_cd 132) 24 = .ok (.iload_n 2, 1) := by decide +kernel
theorem dM_of_25 : decode (hr_cd 132) 25 = .ok (.tableswitch 85 5 8 #[31, 47, 59, 71], 31) := by decide +kernel
theorem dM_of_56 : decode (hr_cd 132) 56 = .ok (.aload_n 0, 1) := by decide +kernel
theorem dM_of_57 : decode (hr_cd 132) 57 = .ok (.iload_n 1, 1) := by decide +kernel
theorem dM_of_58 : decode (hr_cd 132) 58 = .ok (.iconst 1, 1) := by decide +kernel
theorem dM_of_59 : decode (hr_cd 132) 59 = .ok (.invokevirtual 53, 3) := by decide +kernel
theorem dM_of_62 : decode (hr_cd 132) 62 = .ok (.aload_n 0, 1) := by decide +kernel
theorem dM_of_63 : decode (hr_cd 132) 63 = .ok (.getfield 9, 3) := by decide +kernel
theorem dM_of_66 : decode (hr_cd 132) 66 = .ok (.iconst 1, 1) := by decide +kernel
theorem dM_of_67 : decode (hr_cd 132) 67 = .ok (.iaload, 1) := by decide +kernel
theorem dM_of_68 : decode (hr_cd 132) 68 = .ok (.invokestatic 57, 3) := by decide +kernel
theorem dM_of_71 : decode (hr_cd 132) 71 = .ok (.ireturn, 1) := by decide +kernel
theorem dM_of_72 : decode (hr_cd 132) 72 = .ok (.aload_n 0, 1) := by decide +kernel
theorem dM_of_73 : decode (hr_cd 132) 73 = .ok (.iload_n 1, 1) := by decide +kernel
theorem dM_of_74 : decode (hr_cd 132) 74 = .ok (.aload_n 0, 1) := by decide +kernel
theorem dM_of_75 : decode (hr_cd 132) 75 = .ok (.getfield 9, 3) := by decide +kernel
theorem dM_of_78 : decode (hr_cd 132) 78 = .ok (.iconst 1, 1) := by decide +kernel
theorem dM_of_79 : decode (hr_cd 132) 79 = .ok (.iaload, 1) := by decide +kernel
theorem dM_of_80 : decode (hr_cd 132) 80 = .ok (.invokevirtual 60, 3) := by decide +kernel
theorem dM_of_83 : decode (hr_cd 132) 83 = .ok (.ireturn, 1) := by decide +kernel
theorem dM_of_84 : decode (hr_cd 132) 84 = .ok (.aload_n 0, 1) := by decide +kernel
theorem dM_of_85 : decode (hr_cd 132) 85 = .ok (.iload_n 1, 1) := by decide +kernel
theorem dM_of_86 : decode (hr_cd 132) 86 = .ok (.aload_n 0, 1) := by decide +kernel
theorem dM_of_87 : decode (hr_cd 132) 87 = .ok (.getfield 9, 3) := by decide +kernel
theorem dM_of_90 : decode (hr_cd 132) 90 = .ok (.iconst 1, 1) := by decide +kernel
theorem dM_of_91 : decode (hr_cd 132) 91 = .ok (.iaload, 1) := by decide +kernel
theorem dM_of_92 : decode (hr_cd 132) 92 = .ok (.invokevirtual 63, 3) := by decide +kernel
theorem dM_of_95 : decode (hr_cd 132) 95 = .ok (.ireturn, 1) := by decide +kernel
theorem dM_of_96 : decode (hr_cd 132) 96 = .ok (.aload_n 0, 1) := by decide +kernel
theorem dM_of_97 : decode (hr_cd 132) 97 = .ok (.iload_n 1, 1) := by decide +kernel
theorem dM_of_98 : decode (hr_cd 132) 98 = .ok (.invokevirtual 81, 3) := by decide +kernel
theorem dM_of_101 : decode (hr_cd 132) 101 = .ok (.ifCond .eq 7, 3) := by decide +kernel
theorem dM_of_104 : decode (hr_cd 132) 104 = .ok (.iconst 1, 1) := by decide +kernel
theorem dM_of_105 : decode (hr_cd 132) 105 = .ok (.goto 4, 3) := by decide +kernel
theorem dM_of_108 : decode (hr_cd 132) 108 = .ok (.iconst 0, 1) := by decide +kernel
theorem dM_of_109 : decode (hr_cd 132) 109 = .ok (.ireturn, 1) := by decide +kernel
theorem dM_of_110 : decode (hr_cd 132) 110 = .ok (.aload_n 0, 1) := by decide +kernel
theorem dM_of_111 : decode (hr_cd 132) 111 = .ok (.iload_n 1, 1) := by decide +kernel
theorem dM_of_112 : decode (hr_cd 132) 112 = .ok (.iload_n 2, 1) := by decide +kernel
theorem dM_of_113 : decode (hr_cd 132) 113 = .ok (.invokevirtual 53, 3) := by decide +kernel
theorem dM_of_116 : decode (hr_cd 132) 116 = .ok (.ireturn, 1) := by decide +kernel
theorem dM_isRock_0 : decode (hr_cd 133) 0 = .ok (.iload_n 1, 1) := by decide +kernel
theorem dM_isRock_1 : decode (hr_cd 133) 1 = .ok (.iconst 0, 1) := by decide +kernel
theorem dM_isRock_2 : decode (hr_cd 133) 2 = .ok (.aload_n 0, 1) := by decide +kernel
theorem dM_isRock_3 : decode (hr_cd 133) 3 = .ok (.getfield 9, 3) := by decide +kernel
theorem dM_isRock_6 : decode (hr_cd 133) 6 = .ok (.iconst 5, 1) := by decide +kernel
theorem dM_isRock_7 : decode (hr_cd 133) 7 = .ok (.iaload, 1) := by decide +kernel
theorem dM_isRock_8 : decode (hr_cd 133) 8 = .ok (.iconst 1, 1) := by decide +kernel
theorem dM_isRock_9 : decode (hr_cd 133) 9 = .ok (.isub, 1) := by decide +kernel
theorem dM_isRock_10 : decode (hr_cd 133) 10 = .ok (.invokestatic 49, 3) := by decide +kernel
theorem dM_isRock_13 : decode (hr_cd 133) 13 = .ok (.ireturn, 1) := by decide +kernel
theorem dM_wrecksNow_0 : decode (hr_cd 134) 0 = .ok (.aload_n 0, 1) := by decide +kernel
theorem dM_wrecksNow_1 : decode (hr_cd 134) 1 = .ok (.iload_n 1, 1) := by decide +kernel
theorem dM_wrecksNow_2 : decode (hr_cd 134) 2 = .ok (.iconst 0, 1) := by decide +kernel
theorem dM_wrecksNow_3 : decode (hr_cd 134) 3 = .ok (.invokevirtual 53, 3) := by decide +kernel
theorem dM_wrecksNow_6 : decode (hr_cd 134) 6 = .ok (.istore_n 2, 1) := by decide +kernel
theorem dM_wrecksNow_7 : decode (hr_cd 134) 7 = .ok (.iload_n 2, 1) := by decide +kernel
theorem dM_wrecksNow_8 : decode (hr_cd 134) 8 = .ok (.iconst 3, 1) := by decide +kernel
theorem dM_wrecksNow_9 : decode (hr_cd 134) 9 = .ok (.if_icmp .eq 29, 3) := by decide +kernel
theorem dM_wrecksNow_12 : decode (hr_cd 134) 12 = .ok (.iload_n 2, 1) := by decide +kernel
theorem dM_wrecksNow_13 : decode (hr_cd 134) 13 = .ok (.iconst 2, 1) := by decide +kernel
theorem dM_wrecksNow_14 : decode (hr_cd 134) 14 = .ok (.if_icmp .eq 8, 3) := by decide +kernel
theorem dM_wrecksNow_17 : decode (hr_cd 134) 17 = .ok (.iload_n 2, 1) := by decide +kernel
theorem dM_wrecksNow_18 : decode (hr_cd 134) 18 = .ok (.iconst 5, 1) := by decide +kernel
theorem dM_wrecksNow_19 : decode (hr_cd 134) 19 = .ok (.if_icmp .ne 15, 3) := by decide +kernel
theorem dM_wrecksNow_22 : decode (hr_cd 134) 22 = .ok (.aload_n 0, 1) := by decide +kernel
theorem dM_wrecksNow_23 : decode (hr_cd 134) 23 = .ok (.getfield 9, 3) := by decide +kernel
theorem dM_wrecksNow_26 : decode (hr_cd 134) 26 = .ok (.iconst 0, 1) := by decide +kernel
theorem dM_wrecksNow_27 : decode (hr_cd 134) 27 = .ok (.iaload, 1) := by decide +kernel
theorem dM_wrecksNow_28 : decode (hr_cd 134) 28 = .ok (.iconst 3, 1) := by decide +kernel
theorem dM_wrecksNow_29 : decode (hr_cd 134) 29 = .ok (.irem, 1) := by decide +kernel
theorem dM_wrecksNow_30 : decode (hr_cd 134) 30 = .ok (.iconst 2, 1) := by decide +kernel
theorem dM_wrecksNow_31 : decode (hr_cd 134) 31 = .ok (.if_icmp .eq 7, 3) := by decide +kernel
theorem dM_wrecksNow_34 : decode (hr_cd 134) 34 = .ok (.iconst 1, 1) := by decide +kernel
theorem dM_wrecksNow_35 : decode (hr_cd 134) 35 = .ok (.goto 4, 3) := by decide +kernel
theorem dM_wrecksNow_38 : decode (hr_cd 134) 38 = .ok (.iconst 0, 1) := by decide +kernel
theorem dM_wrecksNow_39 : decode (hr_cd 134) 39 = .ok (.ireturn, 1) := by decide +kernel
theorem dM_set_0 : decode (hr_cd 135) 0 = .ok (.iload_n 2, 1) := by decide +kernel
theorem dM_set_1 : decode (hr_cd 135) 1 = .ok (.iconst 1, 1) := by decide +kernel
theorem dM_set_2 : decode (hr_cd 135) 2 = .ok (.if_icmp .ne 8, 3) := by decide +kernel
theorem dM_set_5 : decode (hr_cd 135) 5 = .ok (.bipush 63, 2) := by decide +kernel
theorem dM_set_7 : decode (hr_cd 135) 7 = .ok (.goto 24, 3) := by decide +kernel
theorem dM_set_10 : decode (hr_cd 135) 10 = .ok (.iload_n 2, 1) := by decide +kernel
theorem dM_set_11 : decode (hr_cd 135) 11 = .ok (.iconst 2, 1) := by decide +kernel
theorem dM_set_12 : decode (hr_cd 135) 12 = .ok (.if_icmp .ne 8, 3) := by decide +kernel
theorem dM_set_15 : decode (hr_cd 135) 15 = .ok (.bipush 99, 2) := by decide +kernel
theorem dM_set_17 : decode (hr_cd 135) 17 = .ok (.goto 14, 3) := by decide +kernel
theorem dM_set_20 : decode (hr_cd 135) 20 = .ok (.iload_n 2, 1) := by decide +kernel
theorem dM_set_21 : decode (hr_cd 135) 21 = .ok (.iconst 3, 1) := by decide +kernel
theorem dM_set_22 : decode (hr_cd 135) 22 = .ok (.if_icmp .ne 8, 3) := by decide +kernel
theorem dM_set_25 : decode (hr_cd 135) 25 = .ok (.bipush 9, 2) := by decide +kernel
theorem dM_set_27 : decode (hr_cd 135) 27 = .ok (.goto 4, 3) := by decide +kernel
theorem dM_set_30 : decode (hr_cd 135) 30 = .ok (.iconst 1, 1) := by decide +kernel
theorem dM_set_31 : decode (hr_cd 135) 31 = .ok (.istore 4, 2) := by decide +kernel
theorem dM_set_33 : decode (hr_cd 135) 33 = .ok (.aload_n 0, 1) := by decide +kernel
theorem dM_set_34 : decode (hr_cd 135) 34 = .ok (.iload_n 1, 1) := by decide +kernel
theorem dM_set_35 : decode (hr_cd 135) 35 = .ok (.invokevirtual 114, 3) := by decide +kernel
theorem dM_set_38 : decode (hr_cd 135) 38 = .ok (.ifCond .eq 22, 3) := by decide +kernel
theorem dM_set_41 : decode (hr_cd 135) 41 = .ok (.iload_n 2, 1) := by decide +kernel
theorem dM_set_42 : decode (hr_cd 135) 42 = .ok (.iconst 1, 1) := by decide +kernel
theorem dM_set_43 : decode (hr_cd 135) 43 = .ok (.iconst 4, 1) := by decide +kernel
theorem dM_set_44 : decode (hr_cd 135) 44 = .ok (.invokestatic 49, 3) := by decide +kernel
theorem dM_set_47 : decode (hr_cd 135) 47 = .ok (.ifCond .eq 13, 3) := by decide +kernel
theorem dM_set_50 : decode (hr_cd 135) 50 = .ok (.iload_n 3, 1) := by decide +kernel
theorem dM_set_51 : decode (hr_cd 135) 51 = .ok (.iconst 0, 1) := by decide +kernel
theorem dM_set_52 : decode (hr_cd 135) 52 = .ok (.iload 4, 2) := by decide +kernel
theorem dM_set_54 : decode (hr_cd 135) 54 = .ok (.invokestatic 49, 3) := by decide +kernel
theorem dM_set_57 : decode (hr_cd 135) 57 = .ok (.ifCond .ne 9, 3) := by decide +kernel
theorem dM_set_60 : decode (hr_cd 135) 60 = .ok (.aload_n 0, 1) := by decide +kernel
theorem dM_set_61 : decode (hr_cd 135) 61 = .ok (.iconst 0, 1) := by decide +kernel
theorem dM_set_62 : decode (hr_cd 135) 62 = .ok (.invokevirtual 98, 3) := by decide +kernel
theorem dM_set_65 : decode (hr_cd 135) 65 = .ok (.ireturn, 1) := by decide +kernel
theorem dM_set_66 : decode (hr_cd 135) 66 = .ok (.aload_n 0, 1) := by decide +kernel
theorem dM_set_67 : decode (hr_cd 135) 67 = .ok (.iload_n 1, 1) := by decide +kernel
theorem dM_set_68 : decode (hr_cd 135) 68 = .ok (.iload_n 2, 1) := by decide +kernel
theorem dM_set_69 : decode (hr_cd 135) 69 = .ok (.invokevirtual 53, 3) := by decide +kernel
theorem dM_set_72 : decode (hr_cd 135) 72 = .ok (.istore 5, 2) := by decide +kernel
theorem dM_set_74 : decode (hr_cd 135) 74 = .ok (.aload_n 0, 1) := by decide +kernel
theorem dM_set_75 : decode (hr_cd 135) 75 = .ok (.iload_n 1, 1) := by decide +kernel
theorem dM_set_76 : decode (hr_cd 135) 76 = .ok (.iload_n 2, 1) := by decide +kernel
theorem dM_set_77 : decode (hr_cd 135) 77 = .ok (.iload_n 3, 1) := by decide +kernel
theorem dM_set_78 : decode (hr_cd 135) 78 = .ok (.invokevirtual 84, 3) := by decide +kernel
theorem dM_set_81 : decode (hr_cd 135) 81 = .ok (.iload 5, 2) := by decide +kernel
theorem dM_set_83 : decode (hr_cd 135) 83 = .ok (.ireturn, 1) := by decide +kernel
theorem dM_turn_0 : decode (hr_cd 136) 0 = .ok (.aload_n 0, 1) := by decide +kernel
theorem dM_turn_1 : decode (hr_cd 136) 1 = .ok (.iload_n 1, 1) := by decide +kernel
theorem dM_turn_2 : decode (hr_cd 136) 2 = .ok (.invokevirtual 114, 3) := by decide +kernel
theorem dM_turn_5 : decode (hr_cd 136) 5 = .ok (.ifCond .eq 12, 3) := by decide +kernel
theorem dM_turn_8 : decode (hr_cd 136) 8 = .ok (.iload_n 2, 1) := by decide +kernel
theorem dM_turn_9 : decode (hr_cd 136) 9 = .ok (.iconst 0, 1) := by decide +kernel
theorem dM_turn_10 : decode (hr_cd 136) 10 = .ok (.iconst 5, 1) := by decide +kernel
theorem dM_turn_11 : decode (hr_cd 136) 11 = .ok (.invokestatic 49, 3) := by decide +kernel
theorem dM_turn_14 : decode (hr_cd 136) 14 = .ok (.ifCond .ne 9, 3) := by decide +kernel
theorem dM_turn_17 : decode (hr_cd 136) 17 = .ok (.aload_n 0, 1) := by decide +kernel
theorem dM_turn_18 : decode (hr_cd 136) 18 = .ok (.iconst 0, 1) := by decide +kernel
theorem dM_turn_19 : decode (hr_cd 136) 19 = .ok (.invokevirtual 98, 3) := by decide +kernel
theorem dM_turn_22 : decode (hr_cd 136) 22 = .ok (.ireturn, 1) := by decide +kernel
theorem dM_turn_23 : decode (hr_cd 136) 23 = .ok (.aload_n 0, 1) := by decide +kernel
theorem dM_turn_24 : decode (hr_cd 136) 24 = .ok (.iload_n 1, 1) := by decide +kernel
theorem dM_turn_25 : decode (hr_cd 136) 25 = .ok (.iconst 0, 1) := by decide +kernel
theorem dM_turn_26 : decode (hr_cd 136) 26 = .ok (.invokevirtual 53, 3) := by decide +kernel
theorem dM_turn_29 : decode (hr_cd 136) 29 = .ok (.istore_n 3, 1) := by decide +kernel
theorem dM_turn_30 : decode (hr_cd 136) 30 = .ok (.aload_n 0, 1) := by decide +kernel
theorem dM_turn_31 : decode (hr_cd 136) 31 = .ok (.iload_n 1, 1) := by decide +kernel
theorem dM_turn_32 : decode (hr_cd 136) 32 = .ok (.iconst 0, 1) := by decide +kernel
theorem dM_turn_33 : decode (hr_cd 136) 33 = .ok (.iload_n 2, 1) := by decide +kernel
theorem dM_turn_34 : decode (hr_cd 136) 34 = .ok (.invokevirtual 84, 3) := by decide +kernel
theorem dM_turn_37 : decode (hr_cd 136) 37 = .ok (.iload_n 3, 1) := by decide +kernel
theorem dM_turn_38 : decode (hr_cd 136) 38 = .ok (.ireturn, 1) := by decide +kernel
theorem dM_as_0 : decode (hr_cd 137) 0 = .ok (.aload_n 0, 1) := by decide +kernel
theorem dM_as_1 : decode (hr_cd 137) 1 = .ok (.iload_n 1, 1) := by decide +kernel
theorem dM_as_2 : decode (hr_cd 137) 2 = .ok (.invokevirtual 114, 3) := by decide +kernel
theorem dM_as_5 : decode (hr_cd 137) 5 = .ok (.ifCond .eq 12, 3) := by decide +kernel
theorem dM_as_8 : decode (hr_cd 137) 8 = .ok (.iload_n 2, 1) := by decide +kernel
theorem dM_as_9 : decode (hr_cd 137) 9 = .ok (.iconst 0, 1) := by decide +kernel
theorem dM_as_10 : decode (hr_cd 137) 10 = .ok (.iconst 5, 1) := by decide +kernel
theorem dM_as_11 : decode (hr_cd 137) 11 = .ok (.invokestatic 49, 3) := by decide +kernel
theorem dM_as_14 : decode (hr_cd 137) 14 = .ok (.ifCond .ne 9, 3) := by decide +kernel
theorem dM_as_17 : decode (hr_cd 137) 17 = .ok (.aload_n 0, 1) := by decide +kernel
theorem dM_as_18 : decode (hr_cd 137) 18 = .ok (.iconst 0, 1) := by decide +kernel
theorem dM_as_19 : decode (hr_cd 137) 19 = .ok (.invokevirtual 98, 3) := by decide +kernel
theorem dM_as_22 : decode (hr_cd 137) 22 = .ok (.ireturn, 1) := by decide +kernel
theorem dM_as_23 : decode (hr_cd 137) 23 = .ok (.aload_n 0, 1) := by decide +kernel
theorem dM_as_24 : decode (hr_cd 137) 24 = .ok (.iload_n 1, 1) := by decide +kernel
theorem dM_as_25 : decode (hr_cd 137) 25 = .ok (.iconst 0, 1) := by decide +kernel
theorem dM_as_26 : decode (hr_cd 137) 26 = .ok (.invokevirtual 53, 3) := by decide +kernel
theorem dM_as_29 : decode (hr_cd 137) 29 = .ok (.istore_n 3, 1) := by decide +kernel
theorem dM_as_30 : decode (hr_cd 137) 30 = .ok (.iload_n 3, 1) := by decide +kernel
theorem dM_as_31 : decode (hr_cd 137) 31 = .ok (.iload_n 2, 1) := by decide +kernel
theorem dM_as_32 : decode (hr_cd 137) 32 = .ok (.if_icmp .eq 30, 3) := by decide +kernel
theorem dM_as_35 : decode (hr_cd 137) 35 = .ok (.iload_n 3, 1) := by decide +kernel
theorem dM_as_36 : decode (hr_cd 137) 36 = .ok (.ifCond .eq 26, 3) := by decide +kernel
theorem dM_as_39 : decode (hr_cd 137) 39 = .ok (.iload_n 3, 1) := by decide +kernel
theorem dM_as_40 : decode (hr_cd 137) 40 = .ok (.iconst 4, 1) := by decide +kernel
theorem dM_as_41 : decode (hr_cd 137) 41 = .ok (.if_icmp .ne 7, 3) := by decide +kernel
theorem dM_as_44 : decode (hr_cd 137) 44 = .ok (.iconst 1, 1) := by decide +kernel
theorem dM_as_45 : decode (hr_cd 137) 45 = .ok (.goto 13, 3) := by decide +kernel
theorem dM_as_48 : decode (hr_cd 137) 48 = .ok (.iload_n 3, 1) := by decide +kernel
theorem dM_as_49 : decode (hr_cd 137) 49 = .ok (.iconst 5, 1) := by decide +kernel
theorem dM_as_50 : decode (hr_cd 137) 50 = .ok (.if_icmp .ne 7, 3) := by decide +kernel
theorem dM_as_53 : decode (hr_cd 137) 53 = .ok (.iconst 2, 1) := by decide +kernel
theorem dM_as_54 : decode (hr_cd 137) 54 = .ok (.goto 4, 3) := by decide +kernel
theorem dM_as_57 : decode (hr_cd 137) 57 = .ok (.iconst 0, 1) := by decide +kernel
theorem dM_as_58 : decode (hr_cd 137) 58 = .ok (.istore_n 3, 1) := by decide +kernel
theorem dM_as_59 : decode (hr_cd 137) 59 = .ok (.goto (-29), 3) := by decide +kernel
theorem dM_as_62 : decode (hr_cd 137) 62 = .ok (.iload_n 3, 1) := by decide +kernel
theorem dM_as_63 : decode (hr_cd 137) 63 = .ok (.iload_n 2, 1) := by decide +kernel
theorem dM_as_64 : decode (hr_cd 137) 64 = .ok (.if_icmp .ne 12, 3) := by decide +kernel
theorem dM_as_67 : decode (hr_cd 137) 67 = .ok (.aload_n 0, 1) := by decide +kernel
theorem dM_as_68 : decode (hr_cd 137) 68 = .ok (.iload_n 1, 1) := by decide +kernel
theorem dM_as_69 : decode (hr_cd 137) 69 = .ok (.iconst 2, 1) := by decide +kernel
theorem dM_as_70 : decode (hr_cd 137) 70 = .ok (.invokevirtual 53, 3) := by decide +kernel
theorem dM_as_73 : decode (hr_cd 137) 73 = .ok (.goto 8, 3) := by decide +kernel
theorem dM_as_76 : decode (hr_cd 137) 76 = .ok (.aload_n 0, 1) := by decide +kernel
theorem dM_as_77 : decode (hr_cd 137) 77 = .ok (.iconst 2, 1) := by decide +kernel
theorem dM_as_78 : decode (hr_cd 137) 78 = .ok (.invokevirtual 98, 3) := by decide +kernel
theorem dM_as_81 : decode (hr_cd 137) 81 = .ok (.ireturn, 1) := by decide +kernel
theorem dM_sounds_0 : decode (hr_cd 138) 0 = .ok (.aload_n 0, 1) := by decide +kernel
theorem dM_sounds_1 : decode (hr_cd 138) 1 = .ok (.iload_n 1, 1) := by decide +kernel
theorem dM_sounds_2 : decode (hr_cd 138) 2 = .ok (.invokevirtual 114, 3) := by decide +kernel
theorem dM_sounds_5 : decode (hr_cd 138) 5 = .ok (.ifCond .eq 19, 3) := by decide +kernel
theorem dM_sounds_8 : decode (hr_cd 138) 8 = .ok (.iload_n 2, 1) := by decide +kernel
theorem dM_sounds_9 : decode (hr_cd 138) 9 = .ok (.invokestatic 107, 3) := by decide +kernel
theorem dM_sounds_12 : decode (hr_cd 138) 12 = .ok (.ifCond .eq 12, 3) := by decide +kernel
theorem dM_sounds_15 : decode (hr_cd 138) 15 = .ok (.aload_n 0, 1) := by decide +kernel
theorem dM_sounds_16 : decode (hr_cd 138) 16 = .ok (.iload_n 1, 1) := by decide +kernel
theorem dM_sounds_17 : decode (hr_cd 138) 17 = .ok (.iload_n 2, 1) := by decide +kernel
theorem dM_sounds_18 : decode (hr_cd 138) 18 = .ok (.invokevirtual 60, 3) := by decide +kernel
theorem dM_sounds_21 : decode (hr_cd 138) 21 = .ok (.goto 8, 3) := by decide +kernel
theorem dM_sounds_24 : decode (hr_cd 138) 24 = .ok (.aload_n 0, 1) := by decide +kernel
theorem dM_sounds_25 : decode (hr_cd 138) 25 = .ok (.iconst 0, 1) := by decide +kernel
theorem dM_sounds_26 : decode (hr_cd 138) 26 = .ok (.invokevirtual 98, 3) := by decide +kernel
theorem dM_sounds_29 : decode (hr_cd 138) 29 = .ok (.ireturn, 1) := by decide +kernel
theorem dM_loudest_0 : decode (hr_cd 139) 0 = .ok (.iload_n 1, 1) := by decide +kernel
theorem dM_loudest_1 : decode (hr_cd 139) 1 = .ok (.invokestatic 107, 3) := by decide +kernel
theorem dM_loudest_4 : decode (hr_cd 139) 4 = .ok (.ifCond .ne 9, 3) := by decide +kernel
theorem dM_loudest_7 : decode (hr_cd 139) 7 = .ok (.aload_n 0, 1) := by decide +kernel
theorem dM_loudest_8 : decode (hr_cd 139) 8 = .ok (.iconst 0, 1) := by decide +kernel
theorem dM_loudest_9 : decode (hr_cd 139) 9 = .ok (.invokevirtual 98, 3) := by decide +kernel
theorem dM_loudest_12 : decode (hr_cd 139) 12 = .ok (.ireturn, 1) := by decide +kernel
theorem dM_loudest_13 : decode (hr_cd 139) 13 = .ok (.iconst (-1), 1) := by decide +kernel
theorem dM_loudest_14 : decode (hr_cd 139) 14 = .ok (.istore_n 2, 1) := by decide +kernel
theorem dM_loudest_15 : decode (hr_cd 139) 15 = .ok (.iconst 0, 1) := by decide +kernel
theorem dM_loudest_16 : decode (hr_cd 139) 16 = .ok (.istore_n 3, 1) := by decide +kernel
theorem dM_loudest_17 : decode (hr_cd 139) 17 = .ok (.iload_n 3, 1) := by decide +kernel
theorem dM_loudest_18 : decode (hr_cd 139) 18 = .ok (.aload_n 0, 1) := by decide +kernel
theorem dM_loudest_19 : decode (hr_cd 139) 19 = .ok (.getfield 9, 3) := by decide +kernel
theorem dM_loudest_22 : decode (hr_cd 139) 22 = .ok (.iconst 5, 1) := by decide +kernel
theorem dM_loudest_23 : decode (hr_cd 139) 23 = .ok (.iaload, 1) := by decide +kernel
theorem dM_loudest_24 : decode (hr_cd 139) 24 = .ok (.if_icmp .ge 34, 3) := by decide +kernel
theorem dM_loudest_27 : decode (hr_cd 139) 27 = .ok (.iload_n 2, 1) := by decide +kernel
theorem dM_loudest_28 : decode (hr_cd 139) 28 = .ok (.ifCond .lt 18, 3) := by decide +kernel
theorem dM_loudest_31 : decode (hr_cd 139) 31 = .ok (.aload_n 0, 1) := by decide +kernel
theorem dM_loudest_32 : decode (hr_cd 139) 32 = .ok (.iload_n 3, 1) := by decide +kernel
theorem dM_loudest_33 : decode (hr_cd 139) 33 = .ok (.iload_n 1, 1) := by decide +kernel
theorem dM_loudest_34 : decode (hr_cd 139) 34 = .ok (.invokevirtual 60, 3) := by decide +kernel
theorem dM_loudest_37 : decode (hr_cd 139) 37 = .ok (.aload_n 0, 1) := by decide +kernel
theorem dM_loudest_38 : decode (hr_cd 139) 38 = .ok (.iload_n 2, 1) := by decide +kernel
theorem dM_loudest_39 : decode (hr_cd 139) 39 = .ok (.iload_n 1, 1) := by decide +kernel
theorem dM_loudest_40 : decode (hr_cd 139) 40 = .ok (.invokevirtual 60, 3) := by decide +kernel
theorem dM_loudest_43 : decode (hr_cd 139) 43 = .ok (.if_icmp .le 7, 3) := by decide +kernel
theorem dM_loudest_46 : decode (hr_cd 139) 46 = .ok (.iload_n 3, 1) := by decide +kernel
theorem dM_loudest_47 : decode (hr_cd 139) 47 = .ok (.goto 4, 3) := by decide +kernel
theorem dM_loudest_50 : decode (hr_cd 139) 50 = .ok (.iload_n 2, 1) := by decide +kernel
theorem dM_loudest_51 : decode (hr_cd 139) 51 = .ok (.istore_n 2, 1) := by decide +kernel
theorem dM_loudest_52 : decode (hr_cd 139) 52 = .ok (.iinc 3 1, 3) := by decide +kernel
theorem dM_loudest_55 : decode (hr_cd 139) 55 = .ok (.goto (-38), 3) := by decide +kernel
theorem dM_loudest_58 : decode (hr_cd 139) 58 = .ok (.iload_n 2, 1) := by decide +kernel
theorem dM_loudest_59 : decode (hr_cd 139) 59 = .ok (.ifCond .ge 11, 3) := by decide +kernel
theorem dM_loudest_62 : decode (hr_cd 139) 62 = .ok (.aload_n 0, 1) := by decide +kernel
theorem dM_loudest_63 : decode (hr_cd 139) 63 = .ok (.iconst 3, 1) := by decide +kernel
theorem dM_loudest_64 : decode (hr_cd 139) 64 = .ok (.invokevirtual 98, 3) := by decide +kernel
theorem dM_loudest_67 : decode (hr_cd 139) 67 = .ok (.goto 4, 3) := by decide +kernel
theorem dM_loudest_70 : decode (hr_cd 139) 70 = .ok (.iload_n 2, 1) := by decide +kernel
theorem dM_loudest_71 : decode (hr_cd 139) 71 = .ok (.ireturn, 1) := by decide +kernel
theorem dM_watches_0 : decode (hr_cd 140) 0 = .ok (.iload_n 1, 1) := by decide +kernel
theorem dM_watches_1 : decode (hr_cd 140) 1 = .ok (.iconst 1, 1) := by decide +kernel
theorem dM_watches_2 : decode (hr_cd 140) 2 = .ok (.bipush 100, 2) := by decide +kernel
theorem dM_watches_4 : decode (hr_cd 140) 4 = .ok (.invokestatic 49, 3) := by decide +kernel
theorem dM_watches_7 : decode (hr_cd 140) 7 = .ok (.ifCond .ne 9, 3) := by decide +kernel
theorem dM_watches_10 : decode (hr_cd 140) 10 = .ok (.aload_n 0, 1) := by decide +kernel
theorem dM_watches_11 : decode (hr_cd 140) 11 = .ok (.iconst 0, 1) := by decide +kernel
theorem dM_watches_12 : decode (hr_cd 140) 12 = .ok (.invokevirtual 98, 3) := by decide +kernel
theorem dM_watches_15 : decode (hr_cd 140) 15 = .ok (.ireturn, 1) := by decide +kernel
theorem dM_watches_16 : decode (hr_cd 140) 16 = .ok (.aload_n 0, 1) := by decide +kernel
theorem dM_watches_17 : decode (hr_cd 140) 17 = .ok (.getfield 9, 3) := by decide +kernel
theorem dM_watches_20 : decode (hr_cd 140) 20 = .ok (.iconst 0, 1) := by decide +kernel
theorem dM_watches_21 : decode (hr_cd 140) 21 = .ok (.iaload, 1) := by decide +kernel
theorem dM_watches_22 : decode (hr_cd 140) 22 = .ok (.iload_n 1, 1) := by decide +kernel
theorem dM_watches_23 : decode (hr_cd 140) 23 = .ok (.iadd, 1) := by decide +kernel
theorem dM_watches_24 : decode (hr_cd 140) 24 = .ok (.ldc 117, 2) := by decide +kernel
theorem dM_watches_26 : decode (hr_cd 140) 26 = .ok (.if_icmp .le 9, 3) := by decide +kernel
theorem dM_watches_29 : decode (hr_cd 140) 29 = .ok (.aload_n 0, 1) := by decide +kernel
theorem dM_watches_30 : decode (hr_cd 140) 30 = .ok (.iconst 4, 1) := by decide +kernel
theorem dM_watches_31 : decode (hr_cd 140) 31 = .ok (.invokevirtual 98, 3) := by decide +kernel
theorem dM_watches_34 : decode (hr_cd 140) 34 = .ok (.ireturn, 1) := by decide +kernel
theorem dM_watches_35 : decode (hr_cd 140) 35 = .ok (.aload_n 0, 1) := by decide +kernel
theorem dM_watches_36 : decode (hr_cd 140) 36 = .ok (.iload_n 1, 1) := by decide +kernel
theorem dM_watches_37 : decode (hr_cd 140) 37 = .ok (.invokevirtual 118, 3) := by decide +kernel
theorem dM_watches_40 : decode (hr_cd 140) 40 = .ok (.aload_n 0, 1) := by decide +kernel
theorem dM_watches_41 : decode (hr_cd 140) 41 = .ok (.getfield 9, 3) := by decide +kernel
theorem dM_watches_44 : decode (hr_cd 140) 44 = .ok (.iconst 1, 1) := by decide +kernel
theorem dM_watches_45 : decode (hr_cd 140) 45 = .ok (.iaload, 1) := by decide +kernel
theorem dM_watches_46 : decode (hr_cd 140) 46 = .ok (.ireturn, 1) := by decide +kernel
theorem dM_goes_0 : decode (hr_cd 141) 0 = .ok (.iconst 0, 1) := by decide +kernel
theorem dM_goes_1 : decode (hr_cd 141) 1 = .ok (.istore_n 2, 1) := by decide +kernel
theorem dM_goes_2 : decode (hr_cd 141) 2 = .ok (.iload_n 2, 1) := by decide +kernel
theorem dM_goes_3 : decode (hr_cd 141) 3 = .ok (.iload_n 1, 1) := by decide +kernel
theorem dM_goes_4 : decode (hr_cd 141) 4 = .ok (.if_icmp .ge 13, 3) := by decide +kernel
theorem dM_goes_7 : decode (hr_cd 141) 7 = .ok (.aload_n 0, 1) := by decide +kernel
theorem dM_goes_8 : decode (hr_cd 141) 8 = .ok (.invokevirtual 95, 3) := by decide +kernel
theorem dM_goes_11 : decode (hr_cd 141) 11 = .ok (.iinc 2 1, 3) := by decide +kernel
theorem dM_goes_14 : decode (hr_cd 141) 14 = .ok (.goto (-12), 3) := by decide +kernel
theorem dM_goes_17 : decode (hr_cd 141) 17 = .ok (.return_, 1) := by decide +kernel
theorem dM_watch_0 : decode (hr_cd 142) 0 = .ok (.aload_n 0, 1) := by decide +kernel
theorem dM_watch_1 : decode (hr_cd 142) 1 = .ok (.getfield 9, 3) := by decide +kernel
theorem dM_watch_4 : decode (hr_cd 142) 4 = .ok (.iconst 4, 1) := by decide +kernel
theorem dM_watch_5 : decode (hr_cd 142) 5 = .ok (.iaload, 1) := by decide +kernel
theorem dM_watch_6 : decode (hr_cd 142) 6 = .ok (.ifCond .ne 7, 3) := by decide +kernel
theorem dM_watch_9 : decode (hr_cd 142) 9 = .ok (.aload_n 0, 1) := by decide +kernel
theorem dM_watch_10 : decode (hr_cd 142) 10 = .ok (.invokevirtual 88, 3) := by decide +kernel
theorem dM_watch_13 : decode (hr_cd 142) 13 = .ok (.iconst 0, 1) := by decide +kernel
theorem dM_watch_14 : decode (hr_cd 142) 14 = .ok (.istore_n 1, 1) := by decide +kernel
theorem dM_watch_15 : decode (hr_cd 142) 15 = .ok (.iload_n 1, 1) := by decide +kernel
theorem dM_watch_16 : decode (hr_cd 142) 16 = .ok (.aload_n 0, 1) := by decide +kernel
theorem dM_watch_17 : decode (hr_cd 142) 17 = .ok (.getfield 9, 3) := by decide +kernel
theorem dM_watch_20 : decode (hr_cd 142) 20 = .ok (.iconst 5, 1) := by decide +kernel
theorem dM_watch_21 : decode (hr_cd 142) 21 = .ok (.iaload, 1) := by decide +kernel
theorem dM_watch_22 : decode (hr_cd 142) 22 = .ok (.if_icmp .ge 27, 3) := by decide +kernel
theorem dM_watch_25 : decode (hr_cd 142) 25 = .ok (.aload_n 0, 1) := by decide +kernel
theorem dM_watch_26 : decode (hr_cd 142) 26 = .ok (.getfield 9, 3) := by decide +kernel
theorem dM_watch_29 : decode (hr_cd 142) 29 = .ok (.iconst 0, 1) := by decide +kernel
theorem dM_watch_30 : decode (hr_cd 142) 30 = .ok (.iaload, 1) := by decide +kernel
theorem dM_watch_31 : decode (hr_cd 142) 31 = .ok (.bipush 6, 2) := by decide +kernel
theorem dM_watch_33 : decode (hr_cd 142) 33 = .ok (.irem, 1) := by decide +kernel
theorem dM_watch_34 : decode (hr_cd 142) 34 = .ok (.iconst 5, 1) := by decide +kernel
theorem dM_watch_35 : decode (hr_cd 142) 35 = .ok (.if_icmp .ne 14, 3) := by decide +kernel
theorem dM_watch_38 : decode (hr_cd 142) 38 = .ok (.aload_n 0, 1) := by decide +kernel
theorem dM_watch_39 : decode (hr_cd 142) 39 = .ok (.iload_n 1, 1) := by decide +kernel
theorem dM_watch_40 : decode (hr_cd 142) 40 = .ok (.invokevirtual 91, 3) := by decide +kernel
theorem dM_watch_43 : decode (hr_cd 142) 43 = .ok (.iinc 1 1, 3) := by decide +kernel
theorem dM_watch_46 : decode (hr_cd 142) 46 = .ok (.goto (-31), 3) := by decide +kernel
theorem dM_watch_49 : decode (hr_cd 142) 49 = .ok (.aload_n 0, 1) := by decide +kernel
theorem dM_watch_50 : decode (hr_cd 142) 50 = .ok (.getfield 9, 3) := by decide +kernel
theorem dM_watch_53 : decode (hr_cd 142) 53 = .ok (.iconst 0, 1) := by decide +kernel
theorem dM_watch_54 : decode (hr_cd 142) 54 = .ok (.dup2, 1) := by decide +kernel
theorem dM_watch_55 : decode (hr_cd 142) 55 = .ok (.iaload, 1) := by decide +kernel
theorem dM_watch_56 : decode (hr_cd 142) 56 = .ok (.iconst 1, 1) := by decide +kernel
theorem dM_watch_57 : decode (hr_cd 142) 57 = .ok (.iadd, 1) := by decide +kernel
theorem dM_watch_58 : decode (hr_cd 142) 58 = .ok (.iastore, 1) := by decide +kernel
theorem dM_watch_59 : decode (hr_cd 142) 59 = .ok (.return_, 1) := by decide +kernel
theorem dM_sails_0 : decode (hr_cd 143) 0 = .ok (.aload_n 0, 1) := by decide +kernel
theorem dM_sails_1 : decode (hr_cd 143) 1 = .ok (.invokevirtual 74, 3) := by decide +kernel
theorem dM_sails_4 : decode (hr_cd 143) 4 = .ok (.istore_n 1, 1) := by decide +kernel
theorem dM_sails_5 : decode (hr_cd 143) 5 = .ok (.aload_n 0, 1) := by decide +kernel
theorem dM_sails_6 : decode (hr_cd 143) 6 = .ok (.getfield 9, 3) := by decide +kernel
theorem dM_sails_9 : decode (hr_cd 143) 9 = .ok (.iconst 1, 1) := by decide +kernel
theorem dM_sails_10 : decode (hr_cd 143) 10 = .ok (.iload_n 1, 1) := by decide +kernel
theorem dM_sails_11 : decode (hr_cd 143) 11 = .ok (.ifCond .lt 11, 3) := by decide +kernel
theorem dM_sails_14 : decode (hr_cd 143) 14 = .ok (.aload_n 0, 1) := by decide +kernel
theorem dM_sails_15 : decode (hr_cd 143) 15 = .ok (.iload_n 1, 1) := by decide +kernel
theorem dM_sails_16 : decode (hr_cd 143) 16 = .ok (.invokevirtual 78, 3) := by decide +kernel
theorem dM_sails_19 : decode (hr_cd 143) 19 = .ok (.goto 37, 3) := by decide +kernel
theorem dM_sails_22 : decode (hr_cd 143) 22 = .ok (.aload_n 0, 1) := by decide +kernel
theorem dM_sails_23 : decode (hr_cd 143) 23 = .ok (.getfield 9, 3) := by decide +kernel
theorem dM_sails_26 : decode (hr_cd 143) 26 = .ok (.iconst 1, 1) := by decide +kernel
theorem dM_sails_27 : decode (hr_cd 143) 27 = .ok (.iaload, 1) := by decide +kernel
theorem dM_sails_28 : decode (hr_cd 143) 28 = .ok (.bipush 8, 2) := by decide +kernel
theorem dM_sails_30 : decode (hr_cd 143) 30 = .ok (.irem, 1) := by decide +kernel
theorem dM_sails_31 : decode (hr_cd 143) 31 = .ok (.bipush 7, 2) := by decide +kernel
theorem dM_sails_33 : decode (hr_cd 143) 33 = .ok (.if_icmp .ge 14, 3) := by decide +kernel
theorem dM_sails_36 : decode (hr_cd 143) 36 = .ok (.aload_n 0, 1) := by decide +kernel
theorem dM_sails_37 : decode (hr_cd 143) 37 = .ok (.getfield 9, 3) := by decide +kernel
theorem dM_sails_40 : decode (hr_cd 143) 40 = .ok (.iconst 1, 1) := by decide +kernel
theorem dM_sails_41 : decode (hr_cd 143) 41 = .ok (.iaload, 1) := by decide +kernel
theorem dM_sails_42 : decode (hr_cd 143) 42 = .ok (.iconst 1, 1) := by decide +kernel
theorem dM_sails_43 : decode (hr_cd 143) 43 = .ok (.iadd, 1) := by decide +kernel
theorem dM_sails_44 : decode (hr_cd 143) 44 = .ok (.goto 12, 3) := by decide +kernel
theorem dM_sails_47 : decode (hr_cd 143) 47 = .ok (.aload_n 0, 1) := by decide +kernel
theorem dM_sails_48 : decode (hr_cd 143) 48 = .ok (.getfield 9, 3) := by decide +kernel
theorem dM_sails_51 : decode (hr_cd 143) 51 = .ok (.iconst 1, 1) := by decide +kernel
theorem dM_sails_52 : decode (hr_cd 143) 52 = .ok (.iaload, 1) := by decide +kernel
theorem dM_sails_53 : decode (hr_cd 143) 53 = .ok (.bipush 8, 2) := by decide +kernel
theorem dM_sails_55 : decode (hr_cd 143) 55 = .ok (.iadd, 1) := by decide +kernel
theorem dM_sails_56 : decode (hr_cd 143) 56 = .ok (.iastore, 1) := by decide +kernel
theorem dM_sails_57 : decode (hr_cd 143) 57 = .ok (.iconst 0, 1) := by decide +kernel
theorem dM_sails_58 : decode (hr_cd 143) 58 = .ok (.istore_n 2, 1) := by decide +kernel
theorem dM_sails_59 : decode (hr_cd 143) 59 = .ok (.iconst 0, 1) := by decide +kernel
theorem dM_sails_60 : decode (hr_cd 143) 60 = .ok (.istore_n 3, 1) := by decide +kernel
theorem dM_sails_61 : decode (hr_cd 143) 61 = .ok (.iload_n 3, 1) := by decide +kernel
theorem dM_sails_62 : decode (hr_cd 143) 62 = .ok (.aload_n 0, 1) := by decide +kernel
theorem dM_sails_63 : decode (hr_cd 143) 63 = .ok (.getfield 9, 3) := by decide +kernel
theorem dM_sails_66 : decode (hr_cd 143) 66 = .ok (.iconst 5, 1) := by decide +kernel
theorem dM_sails_67 : decode (hr_cd 143) 67 = .ok (.iaload, 1) := by decide +kernel
theorem dM_sails_68 : decode (hr_cd 143) 68 = .ok (.if_icmp .ge 40, 3) := by decide +kernel
theorem dM_sails_71 : decode (hr_cd 143) 71 = .ok (.iload_n 2, 1) := by decide +kernel
theorem dM_sails_72 : decode (hr_cd 143) 72 = .ok (.aload_n 0, 1) := by decide +kernel
theorem dM_sails_73 : decode (hr_cd 143) 73 = .ok (.iload_n 3, 1) := by decide +kernel
theorem dM_sails_74 : decode (hr_cd 143) 74 = .ok (.iconst 1, 1) := by decide +kernel
theorem dM_sails_75 : decode (hr_cd 143) 75 = .ok (.invokevirtual 53, 3) := by decide +kernel
theorem dM_sails_78 : decode (hr_cd 143) 78 = .ok (.aload_n 0, 1) := by decide +kernel
theorem dM_sails_79 : decode (hr_cd 143) 79 = .ok (.getfield 9, 3) := by decide +kernel
theorem dM_sails_82 : decode (hr_cd 143) 82 = .ok (.iconst 1, 1) := by decide +kernel
theorem dM_sails_83 : decode (hr_cd 143) 83 = .ok (.iaload, 1) := by decide +kernel
theorem dM_sails_84 : decode (hr_cd 143) 84 = .ok (.if_icmp .ne 15, 3) := by decide +kernel
theorem dM_sails_87 : decode (hr_cd 143) 87 = .ok (.aload_n 0, 1) := by decide +kernel
theorem dM_sails_88 : decode (hr_cd 143) 88 = .ok (.iload_n 3, 1) := by decide +kernel
theorem dM_sails_89 : decode (hr_cd 143) 89 = .ok (.invokevirtual 81, 3) := by decide +kernel
theorem dM_sails_92 : decode (hr_cd 143) 92 = .ok (.ifCond .eq 7, 3) := by decide +kernel
theorem dM_sails_95 : decode (hr_cd 143) 95 = .ok (.iconst 1, 1) := by decide +kernel
theorem dM_sails_96 : decode (hr_cd 143) 96 = .ok (.goto 4, 3) := by decide +kernel
theorem dM_sails_99 : decode (hr_cd 143) 99 = .ok (.iconst 0, 1) := by decide +kernel
theorem dM_sails_100 : decode (hr_cd 143) 100 = .ok (.ior, 1) := by decide +kernel
theorem dM_sails_101 : decode (hr_cd 143) 101 = .ok (.istore_n 2, 1) := by decide +kernel
theorem dM_sails_102 : decode (hr_cd 143) 102 = .ok (.iinc 3 1, 3) := by decide +kernel
theorem dM_sails_105 : decode (hr_cd 143) 105 = .ok (.goto (-44), 3) := by decide +kernel
theorem dM_sails_108 : decode (hr_cd 143) 108 = .ok (.aload_n 0, 1) := by decide +kernel
theorem dM_sails_109 : decode (hr_cd 143) 109 = .ok (.getfield 9, 3) := by decide +kernel
theorem dM_sails_112 : decode (hr_cd 143) 112 = .ok (.iconst 4, 1) := by decide +kernel
theorem dM_sails_113 : decode (hr_cd 143) 113 = .ok (.iload_n 2, 1) := by decide +kernel
theorem dM_sails_114 : decode (hr_cd 143) 114 = .ok (.ifCond .eq 7, 3) := by decide +kernel
theorem dM_sails_117 : decode (hr_cd 143) 117 = .ok (.iconst 1, 1) := by decide +kernel
theorem dM_sails_118 : decode (hr_cd 143) 118 = .ok (.goto 19, 3) := by decide +kernel
theorem dM_sails_121 : decode (hr_cd 143) 121 = .ok (.aload_n 0, 1) := by decide +kernel
theorem dM_sails_122 : decode (hr_cd 143) 122 = .ok (.getfield 9, 3) := by decide +kernel
theorem dM_sails_125 : decode (hr_cd 143) 125 = .ok (.iconst 1, 1) := by decide +kernel
theorem dM_sails_126 : decode (hr_cd 143) 126 = .ok (.iaload, 1) := by decide +kernel
theorem dM_sails_127 : decode (hr_cd 143) 127 = .ok (.bipush 63, 2) := by decide +kernel
theorem dM_sails_129 : decode (hr_cd 143) 129 = .ok (.if_icmp .ne 7, 3) := by decide +kernel
theorem dM_sails_132 : decode (hr_cd 143) 132 = .ok (.iconst 2, 1) := by decide +kernel
theorem dM_sails_133 : decode (hr_cd 143) 133 = .ok (.goto 4, 3) := by decide +kernel
theorem dM_sails_136 : decode (hr_cd 143) 136 = .ok (.iconst 0, 1) := by decide +kernel
theorem dM_sails_137 : decode (hr_cd 143) 137 = .ok (.iastore, 1) := by decide +kernel
theorem dM_sails_138 : decode (hr_cd 143) 138 = .ok (.return_, 1) := by decide +kernel
theorem dM_goesBy_0 : decode (hr_cd 144) 0 = .ok (.iconst (-1), 1) := by decide +kernel
theorem dM_goesBy_1 : decode (hr_cd 144) 1 = .ok (.istore_n 2, 1) := by decide +kernel
theorem dM_goesBy_2 : decode (hr_cd 144) 2 = .ok (.iconst 0, 1) := by decide +kernel
theorem dM_goesBy_3 : decode (hr_cd 144) 3 = .ok (.istore_n 3, 1) := by decide +kernel
theorem dM_goesBy_4 : decode (hr_cd 144) 4 = .ok (.iload_n 3, 1) := by decide +kernel
theorem dM_goesBy_5 : decode (hr_cd 144) 5 = .ok (.iconst 4, 1) := by decide +kernel
theorem dM_goesBy_6 : decode (hr_cd 144) 6 = .ok (.if_icmp .ge 112, 3) := by decide +kernel
theorem dM_goesBy_9 : decode (hr_cd 144) 9 = .ok (.aload_n 0, 1) := by decide +kernel
theorem dM_goesBy_10 : decode (hr_cd 144) 10 = .ok (.iload_n 3, 1) := by decide +kernel
theorem dM_goesBy_11 : decode (hr_cd 144) 11 = .ok (.invokevirtual 70, 3) := by decide +kernel
theorem dM_goesBy_14 : decode (hr_cd 144) 14 = .ok (.istore 4, 2) := by decide +kernel
theorem dM_goesBy_16 : decode (hr_cd 144) 16 = .ok (.iload 4, 2) := by decide +kernel
theorem dM_goesBy_18 : decode (hr_cd 144) 18 = .ok (.ifCond .ge 7, 3) := by decide +kernel
theorem dM_goesBy_21 : decode (hr_cd 144) 21 = .ok (.iconst 0, 1) := by decide +kernel
theorem dM_goesBy_22 : decode (hr_cd 144) 22 = .ok (.goto 14, 3) := by decide +kernel
theorem dM_goesBy_25 : decode (hr_cd 144) 25 = .ok (.iload 4, 2) := by decide +kernel
theorem dM_goesBy_27 : decode (hr_cd 144) 27 = .ok (.aload_n 0, 1) := by decide +kernel
theorem dM_goesBy_28 : decode (hr_cd 144) 28 = .ok (.iload_n 1, 1) := by decide +kernel
theorem dM_goesBy_29 : decode (hr_cd 144) 29 = .ok (.iconst 1, 1) := by decide +kernel
theorem dM_goesBy_30 : decode (hr_cd 144) 30 = .ok (.invokevirtual 53, 3) := by decide +kernel
theorem dM_goesBy_33 : decode (hr_cd 144) 33 = .ok (.invokestatic 57, 3) := by decide +kernel
theorem dM_goesBy_36 : decode (hr_cd 144) 36 = .ok (.istore 5, 2) := by decide +kernel
theorem dM_goesBy_38 : decode (hr_cd 144) 38 = .ok (.iload_n 2, 1) := by decide +kernel
theorem dM_goesBy_39 : decode (hr_cd 144) 39 = .ok (.ifCond .ge 7, 3) := by decide +kernel
theorem dM_goesBy_42 : decode (hr_cd 144) 42 = .ok (.iconst 0, 1) := by decide +kernel
theorem dM_goesBy_43 : decode (hr_cd 144) 43 = .ok (.goto 13, 3) := by decide +kernel
theorem dM_goesBy_46 : decode (hr_cd 144) 46 = .ok (.iload_n 2, 1) := by decide +kernel
theorem dM_goesBy_47 : decode (hr_cd 144) 47 = .ok (.aload_n 0, 1) := by decide +kernel
theorem dM_goesBy_48 : decode (hr_cd 144) 48 = .ok (.iload_n 1, 1) := by decide +kernel
theorem dM_goesBy_49 : decode (hr_cd 144) 49 = .ok (.iconst 1, 1) := by decide +kernel
theorem dM_goesBy_50 : decode (hr_cd 144) 50 = .ok (.invokevirtual 53, 3) := by decide +kernel
theorem dM_goesBy_53 : decode (hr_cd 144) 53 = .ok (.invokestatic 57, 3) := by decide +kernel
theorem dM_goesBy_56 : decode (hr_cd 144) 56 = .ok (.istore 6, 2) := by decide +kernel
theorem dM_goesBy_58 : decode (hr_cd 144) 58 = .ok (.iload_n 2, 1) := by decide +kernel
theorem dM_goesBy_59 : decode (hr_cd 144) 59 = .ok (.ifCond .lt 29, 3) := by decide +kernel
theorem dM_goesBy_62 : decode (hr_cd 144) 62 = .ok (.aload_n 0, 1) := by decide +kernel
theorem dM_goesBy_63 : decode (hr_cd 144) 63 = .ok (.getfield 9, 3) := by decide +kernel
theorem dM_goesBy_66 : decode (hr_cd 144) 66 = .ok (.iconst 3, 1) := by decide +kernel
theorem dM_goesBy_67 : decode (hr_cd 144) 67 = .ok (.iaload, 1) := by decide +kernel
theorem dM_goesBy_68 : decode (hr_cd 144) 68 = .ok (.ifCond .ne 13, 3) := by decide +kernel
theorem dM_goesBy_71 : decode (hr_cd 144) 71 = .ok (.iload 5, 2) := by decide +kernel
theorem dM_goesBy_73 : decode (hr_cd 144) 73 = .ok (.iload 6, 2) := by decide +kernel
theorem dM_goesBy_75 : decode (hr_cd 144) 75 = .ok (.if_icmp .le 17, 3) := by decide +kernel
theorem dM_goesBy_78 : decode (hr_cd 144) 78 = .ok (.goto 10, 3) := by decide +kernel
theorem dM_goesBy_81 : decode (hr_cd 144) 81 = .ok (.iload 5, 2) := by decide +kernel
theorem dM_goesBy_83 : decode (hr_cd 144) 83 = .ok (.iload 6, 2) := by decide +kernel
theorem dM_goesBy_85 : decode (hr_cd 144) 85 = .ok (.if_icmp .ge 7, 3) := by decide +kernel
theorem dM_goesBy_88 : decode (hr_cd 144) 88 = .ok (.iconst 1, 1) := by decide +kernel
theorem dM_goesBy_89 : decode (hr_cd 144) 89 = .ok (.goto 4, 3) := by decide +kernel
theorem dM_goesBy_92 : decode (hr_cd 144) 92 = .ok (.iconst 0, 1) := by decide +kernel
theorem dM_goesBy_93 : decode (hr_cd 144) 93 = .ok (.istore 7, 2) := by decide +kernel
theorem dM_goesBy_95 : decode (hr_cd 144) 95 = .ok (.iload 4, 2) := by decide +kernel
theorem dM_goesBy_97 : decode (hr_cd 144) 97 = .ok (.ifCond .lt 13, 3) := by decide +kernel
theorem dM_goesBy_100 : decode (hr_cd 144) 100 = .ok (.iload 7, 2) := by decide +kernel
theorem dM_goesBy_102 : decode (hr_cd 144) 102 = .ok (.ifCond .eq 8, 3) := by decide +kernel
theorem dM_goesBy_105 : decode (hr_cd 144) 105 = .ok (.iload 4, 2) := by decide +kernel
theorem dM_goesBy_107 : decode (hr_cd 144) 107 = .ok (.goto 4, 3) := by decide +kernel
theorem dM_goesBy_110 : decode (hr_cd 144) 110 = .ok (.iload_n 2, 1) := by decide +kernel
theorem dM_goesBy_111 : decode (hr_cd 144) 111 = .ok (.istore_n 2, 1) := by decide +kernel
theorem dM_goesBy_112 : decode (hr_cd 144) 112 = .ok (.iinc 3 1, 3) := by decide +kernel
theorem dM_goesBy_115 : decode (hr_cd 144) 115 = .ok (.goto (-111), 3) := by decide +kernel
theorem dM_goesBy_118 : decode (hr_cd 144) 118 = .ok (.iload_n 2, 1) := by decide +kernel
theorem dM_goesBy_119 : decode (hr_cd 144) 119 = .ok (.ireturn, 1) := by decide +kernel
theorem dM_besideOf_0 : decode (hr_cd 145) 0 = .ok (.aload_n 0, 1) := by decide +kernel
theorem dM_besideOf_1 : decode (hr_cd 145) 1 = .ok (.getfield 9, 3) := by decide +kernel
theorem dM_besideOf_4 : decode (hr_cd 145) 4 = .ok (.iconst 1, 1) := by decide +kernel
theorem dM_besideOf_5 : decode (hr_cd 145) 5 = .ok (.iaload, 1) := by decide +kernel
theorem dM_besideOf_6 : decode (hr_cd 145) 6 = .ok (.bipush 8, 2) := by decide +kernel
theorem dM_besideOf_8 : decode (hr_cd 145) 8 = .ok (.idiv, 1) := by decide +kernel
theorem dM_besideOf_9 : decode (hr_cd 145) 9 = .ok (.iload_n 1, 1) := by decide +kernel
theorem dM_besideOf_10 : decode (hr_cd 145) 10 = .ok (.ifCond .ne 7, 3) := by decide +kernel
theorem dM_besideOf_13 : decode (hr_cd 145) 13 = .ok (.iconst (-1), 1) := by decide +kernel
theorem dM_besideOf_14 : decode (hr_cd 145) 14 = .ok (.goto 13, 3) := by decide +kernel
theorem dM_besideOf_17 : decode (hr_cd 145) 17 = .ok (.iload_n 1, 1) := by decide +kernel
theorem dM_besideOf_18 : decode (hr_cd 145) 18 = .ok (.iconst 2, 1) := by decide +kernel
theorem dM_besideOf_19 : decode (hr_cd 145) 19 = .ok (.if_icmp .ne 7, 3) := by decide +kernel
theorem dM_besideOf_22 : decode (hr_cd 145) 22 = .ok (.iconst 1, 1) := by decide +kernel
theorem dM_besideOf_23 : decode (hr_cd 145) 23 = .ok (.goto 4, 3) := by decide +kernel
theorem dM_besideOf_26 : decode (hr_cd 145) 26 = .ok (.iconst 0, 1) := by decide +kernel
theorem dM_besideOf_27 : decode (hr_cd 145) 27 = .ok (.iadd, 1) := by decide +kernel
theorem dM_besideOf_28 : decode (hr_cd 145) 28 = .ok (.istore_n 2, 1) := by decide +kernel
theorem dM_besideOf_29 : decode (hr_cd 145) 29 = .ok (.aload_n 0, 1) := by decide +kernel
theorem dM_besideOf_30 : decode (hr_cd 145) 30 = .ok (.getfield 9, 3) := by decide +kernel
theorem dM_besideOf_33 : decode (hr_cd 145) 33 = .ok (.iconst 1, 1) := by decide +kernel
theorem dM_besideOf_34 : decode (hr_cd 145) 34 = .ok (.iaload, 1) := by decide +kernel
theorem dM_besideOf_35 : decode (hr_cd 145) 35 = .ok (.bipush 8, 2) := by decide +kernel
theorem dM_besideOf_37 : decode (hr_cd 145) 37 = .ok (.irem, 1) := by decide +kernel
theorem dM_besideOf_38 : decode (hr_cd 145) 38 = .ok (.iload_n 1, 1) := by decide +kernel
theorem dM_besideOf_39 : decode (hr_cd 145) 39 = .ok (.iconst 3, 1) := by decide +kernel
theorem dM_besideOf_40 : decode (hr_cd 145) 40 = .ok (.if_icmp .ne 7, 3) := by decide +kernel
theorem dM_besideOf_43 : decode (hr_cd 145) 43 = .ok (.iconst (-1), 1) := by decide +kernel
theorem dM_besideOf_44 : decode (hr_cd 145) 44 = .ok (.goto 13, 3) := by decide +kernel
theorem dM_besideOf_47 : decode (hr_cd 145) 47 = .ok (.iload_n 1, 1) := by decide +kernel
theorem dM_besideOf_48 : decode (hr_cd 145) 48 = .ok (.iconst 1, 1) := by decide +kernel
theorem dM_besideOf_49 : decode (hr_cd 145) 49 = .ok (.if_icmp .ne 7, 3) := by decide +kernel
theorem dM_besideOf_52 : decode (hr_cd 145) 52 = .ok (.iconst 1, 1) := by decide +kernel
theorem dM_besideOf_53 : decode (hr_cd 145) 53 = .ok (.goto 4, 3) := by decide +kernel
theorem dM_besideOf_56 : decode (hr_cd 145) 56 = .ok (.iconst 0, 1) := by decide +kernel
theorem dM_besideOf_57 : decode (hr_cd 145) 57 = .ok (.iadd, 1) := by decide +kernel
theorem dM_besideOf_58 : decode (hr_cd 145) 58 = .ok (.istore_n 3, 1) := by decide +kernel
theorem dM_besideOf_59 : decode (hr_cd 145) 59 = .ok (.iload_n 2, 1) := by decide +kernel
theorem dM_besideOf_60 : decode (hr_cd 145) 60 = .ok (.iconst 0, 1) := by decide +kernel
theorem dM_besideOf_61 : decode (hr_cd 145) 61 = .ok (.bipush 7, 2) := by decide +kernel
theorem dM_besideOf_63 : decode (hr_cd 145) 63 = .ok (.invokestatic 49, 3) := by decide +kernel
theorem dM_besideOf_66 : decode (hr_cd 145) 66 = .ok (.ifCond .eq 22, 3) := by decide +kernel
theorem dM_besideOf_69 : decode (hr_cd 145) 69 = .ok (.iload_n 3, 1) := by decide +kernel
theorem dM_besideOf_70 : decode (hr_cd 145) 70 = .ok (.iconst 0, 1) := by decide +kernel
theorem dM_besideOf_71 : decode (hr_cd 145) 71 = .ok (.bipush 7, 2) := by decide +kernel
theorem dM_besideOf_73 : decode (hr_cd 145) 73 = .ok (.invokestatic 49, 3) := by decide +kernel
theorem dM_besideOf_76 : decode (hr_cd 145) 76 = .ok (.ifCond .eq 12, 3) := by decide +kernel
theorem dM_besideOf_79 : decode (hr_cd 145) 79 = .ok (.bipush 8, 2) := by decide +kernel
theorem dM_besideOf_81 : decode (hr_cd 145) 81 = .ok (.iload_n 2, 1) := by decide +kernel
theorem dM_besideOf_82 : decode (hr_cd 145) 82 = .ok (.imul, 1) := by decide +kernel
theorem dM_besideOf_83 : decode (hr_cd 145) 83 = .ok (.iload_n 3, 1) := by decide +kernel
theorem dM_besideOf_84 : decode (hr_cd 145) 84 = .ok (.iadd, 1) := by decide +kernel
theorem dM_besideOf_85 : decode (hr_cd 145) 85 = .ok (.goto 4, 3) := by decide +kernel
theorem dM_besideOf_88 : decode (hr_cd 145) 88 = .ok (.iconst (-1), 1) := by decide +kernel
theorem dM_besideOf_89 : decode (hr_cd 145) 89 = .ok (.ireturn, 1) := by decide +kernel
theorem dM_drifts_0 : decode (hr_cd 146) 0 = .ok (.aload_n 0, 1) := by decide +kernel
theorem dM_drifts_1 : decode (hr_cd 146) 1 = .ok (.iload_n 1, 1) := by decide +kernel
theorem dM_drifts_2 : decode (hr_cd 146) 2 = .ok (.iconst 0, 1) := by decide +kernel
theorem dM_drifts_3 : decode (hr_cd 146) 3 = .ok (.invokevirtual 53, 3) := by decide +kernel
theorem dM_drifts_6 : decode (hr_cd 146) 6 = .ok (.iconst 2, 1) := by decide +kernel
theorem dM_drifts_7 : decode (hr_cd 146) 7 = .ok (.if_icmp .eq 13, 3) := by decide +kernel
theorem dM_drifts_10 : decode (hr_cd 146) 10 = .ok (.aload_n 0, 1) := by decide +kernel
theorem dM_drifts_11 : decode (hr_cd 146) 11 = .ok (.iload_n 1, 1) := by decide +kernel
theorem dM_drifts_12 : decode (hr_cd 146) 12 = .ok (.iconst 0, 1) := by decide +kernel
theorem dM_drifts_13 : decode (hr_cd 146) 13 = .ok (.invokevirtual 53, 3) := by decide +kernel
theorem dM_drifts_16 : decode (hr_cd 146) 16 = .ok (.iconst 5, 1) := by decide +kernel
theorem dM_drifts_17 : decode (hr_cd 146) 17 = .ok (.if_icmp .ne 7, 3) := by decide +kernel
theorem dM_drifts_20 : decode (hr_cd 146) 20 = .ok (.iconst 1, 1) := by decide +kernel
theorem dM_drifts_21 : decode (hr_cd 146) 21 = .ok (.goto 4, 3) := by decide +kernel
theorem dM_drifts_24 : decode (hr_cd 146) 24 = .ok (.iconst 0, 1) := by decide +kernel
theorem dM_drifts_25 : decode (hr_cd 146) 25 = .ok (.istore_n 2, 1) := by decide +kernel
theorem dM_drifts_26 : decode (hr_cd 146) 26 = .ok (.iload_n 2, 1) := by decide +kernel
theorem dM_drifts_27 : decode (hr_cd 146) 27 = .ok (.ifCond .eq 38, 3) := by decide +kernel
theorem dM_drifts_30 : decode (hr_cd 146) 30 = .ok (.aload_n 0, 1) := by decide +kernel
theorem dM_drifts_31 : decode (hr_cd 146) 31 = .ok (.iload_n 1, 1) := by decide +kernel
theorem dM_drifts_32 : decode (hr_cd 146) 32 = .ok (.iconst 4, 1) := by decide +kernel
theorem dM_drifts_33 : decode (hr_cd 146) 33 = .ok (.invokevirtual 53, 3) := by decide +kernel
theorem dM_drifts_36 : decode (hr_cd 146) 36 = .ok (.ifCond .ne 29, 3) := by decide +kernel
theorem dM_drifts_39 : decode (hr_cd 146) 39 = .ok (.aload_n 0, 1) := by decide +kernel
theorem dM_drifts_40 : decode (hr_cd 146) 40 = .ok (.iload_n 1, 1) := by decide +kernel
theorem dM_drifts_41 : decode (hr_cd 146) 41 = .ok (.iconst 1, 1) := by decide +kernel
theorem dM_drifts_42 : decode (hr_cd 146) 42 = .ok (.invokevirtual 53, 3) := by decide +kernel
theorem dM_drifts_45 : decode (hr_cd 146) 45 = .ok (.bipush 8, 2) := by decide +kernel
theorem dM_drifts_47 : decode (hr_cd 146) 47 = .ok (.irem, 1) := by decide +kernel
theorem dM_drifts_48 : decode (hr_cd 146) 48 = .ok (.ifCond .le 17, 3) := by decide +kernel
theorem dM_drifts_51 : decode (hr_cd 146) 51 = .ok (.aload_n 0, 1) := by decide +kernel
theorem dM_drifts_52 : decode (hr_cd 146) 52 = .ok (.iload_n 1, 1) := by decide +kernel
theorem dM_drifts_53 : decode (hr_cd 146) 53 = .ok (.iconst 1, 1) := by decide +kernel
theorem dM_drifts_54 : decode (hr_cd 146) 54 = .ok (.aload_n 0, 1) := by decide +kernel
theorem dM_drifts_55 : decode (hr_cd 146) 55 = .ok (.iload_n 1, 1) := by decide +kernel
theorem dM_drifts_56 : decode (hr_cd 146) 56 = .ok (.iconst 1, 1) := by decide +kernel
theorem dM_drifts_57 : decode (hr_cd 146) 57 = .ok (.invokevirtual 53, 3) := by decide +kernel
theorem dM_drifts_60 : decode (hr_cd 146) 60 = .ok (.iconst 1, 1) := by decide +kernel
theorem dM_drifts_61 : decode (hr_cd 146) 61 = .ok (.isub, 1) := by decide +kernel
theorem dM_drifts_62 : decode (hr_cd 146) 62 = .ok (.invokevirtual 84, 3) := by decide +kernel
theorem dM_drifts_65 : decode (hr_cd 146) 65 = .ok (.return_, 1) := by decide +kernel
theorem dM_on_0 : decode (hr_cd 147) 0 = .ok (.iload_n 1, 1) := by decide +kernel
theorem dM_on_1 : decode (hr_cd 147) 1 = .ok (.iconst 0, 1) := by decide +kernel
theorem dM_on_2 : decode (hr_cd 147) 2 = .ok (.sipush 200, 3) := by decide +kernel
theorem dM_on_5 : decode (hr_cd 147) 5 = .ok (.invokestatic 49, 3) := by decide +kernel
theorem dM_on_8 : decode (hr_cd 147) 8 = .ok (.ifCond .eq 29, 3) := by decide +kernel
theorem dM_on_11 : decode (hr_cd 147) 11 = .ok (.iload_n 2, 1) := by decide +kernel
theorem dM_on_12 : decode (hr_cd 147) 12 = .ok (.iconst 0, 1) := by decide +kernel
theorem dM_on_13 : decode (hr_cd 147) 13 = .ok (.iconst 1, 1) := by decide +kernel
theorem dM_on_14 : decode (hr_cd 147) 14 = .ok (.invokestatic 49, 3) := by decide +kernel
theorem dM_on_17 : decode (hr_cd 147) 17 = .ok (.ifCond .eq 20, 3) := by decide +kernel
theorem dM_on_20 : decode (hr_cd 147) 20 = .ok (.aload_n 0, 1) := by decide +kernel
theorem dM_on_21 : decode (hr_cd 147) 21 = .ok (.iload_n 2, 1) := by decide +kernel
theorem dM_on_22 : decode (hr_cd 147) 22 = .ok (.ifCond .ne 7, 3) := by decide +kernel
theorem dM_on_25 : decode (hr_cd 147) 25 = .ok (.iconst 1, 1) := by decide +kernel
theorem dM_on_26 : decode (hr_cd 147) 26 = .ok (.goto 4, 3) := by decide +kernel
theorem dM_on_29 : decode (hr_cd 147) 29 = .ok (.iconst 4, 1) := by decide +kernel
theorem dM_on_30 : decode (hr_cd 147) 30 = .ok (.iload_n 1, 1) := by decide +kernel
theorem dM_on_31 : decode (hr_cd 147) 31 = .ok (.invokevirtual 127, 3) := by decide +kernel
theorem dM_on_34 : decode (hr_cd 147) 34 = .ok (.goto 8, 3) := by decide +kernel
theorem dM_on_37 : decode (hr_cd 147) 37 = .ok (.aload_n 0, 1) := by decide +kernel
theorem dM_on_38 : decode (hr_cd 147) 38 = .ok (.iconst 0, 1) := by decide +kernel
theorem dM_on_39 : decode (hr_cd 147) 39 = .ok (.invokevirtual 98, 3) := by decide +kernel
theorem dM_on_42 : decode (hr_cd 147) 42 = .ok (.ireturn, 1) := by decide +kernel
theorem dM_thenAt_0 : decode (hr_cd 148) 0 = .ok (.aload_n 0, 1) := by decide +kernel
theorem dM_thenAt_1 : decode (hr_cd 148) 1 = .ok (.invokevirtual 121, 3) := by decide +kernel
theorem dM_thenAt_4 : decode (hr_cd 148) 4 = .ok (.aload_n 0, 1) := by decide +kernel
theorem dM_thenAt_5 : decode (hr_cd 148) 5 = .ok (.iload_n 2, 1) := by decide +kernel
theorem dM_thenAt_6 : decode (hr_cd 148) 6 = .ok (.invokevirtual 118, 3) := by decide +kernel
theorem dM_thenAt_9 : decode (hr_cd 148) 9 = .ok (.aload_n 0, 1) := by decide +kernel
theorem dM_thenAt_10 : decode (hr_cd 148) 10 = .ok (.getfield 9, 3) := by decide +kernel
theorem dM_thenAt_13 : decode (hr_cd 148) 13 = .ok (.iload_n 1, 1) := by decide +kernel
theorem dM_thenAt_14 : decode (hr_cd 148) 14 = .ok (.iaload, 1) := by decide +kernel
theorem dM_thenAt_15 : decode (hr_cd 148) 15 = .ok (.istore_n 3, 1) := by decide +kernel
theorem dM_thenAt_16 : decode (hr_cd 148) 16 = .ok (.aload_n 0, 1) := by decide +kernel
theorem dM_thenAt_17 : decode (hr_cd 148) 17 = .ok (.invokevirtual 124, 3) := by decide +kernel
theorem dM_thenAt_20 : decode (hr_cd 148) 20 = .ok (.iload_n 3, 1) := by decide +kernel
theorem dM_thenAt_21 : decode (hr_cd 148) 21 = .ok (.ireturn, 1) := by decide +kernel
theorem dM_setsAside_0 : decode (hr_cd 149) 0 = .ok (.iconst 0, 1) := by decide +kernel
theorem dM_setsAside_1 : decode (hr_cd 149) 1 = .ok (.istore_n 1, 1) := by decide +kernel
theorem dM_setsAside_2 : decode (hr_cd 149) 2 = .ok (.iload_n 1, 1) := by decide +kernel
theorem dM_setsAside_3 : decode (hr_cd 149) 3 = .ok (.bipush 46, 2) := by decide +kernel
theorem dM_setsAside_5 : decode (hr_cd 149) 5 = .ok (.if_icmp .ge 21, 3) := by decide +kernel
theorem dM_setsAside_8 : decode (hr_cd 149) 8 = .ok (.aload_n 0, 1) := by decide +kernel
theorem dM_setsAside_9 : decode (hr_cd 149) 9 = .ok (.getfield 16, 3) := by decide +kernel
theorem dM_setsAside_12 : decode (hr_cd 149) 12 = .ok (.iload_n 1, 1) := by decide +kernel
theorem dM_setsAside_13 : decode (hr_cd 149) 13 = .ok (.aload_n 0, 1) := by decide +kernel
theorem dM_setsAside_14 : decode (hr_cd 149) 14 = .ok (.getfield 9, 3) := by decide +kernel
theorem dM_setsAside_17 : decode (hr_cd 149) 17 = .ok (.iload_n 1, 1) := by decide +kernel
theorem dM_setsAside_18 : decode (hr_cd 149) 18 = .ok (.iaload, 1) := by decide +kernel
theorem dM_setsAside_19 : decode (hr_cd 149) 19 = .ok (.iastore, 1) := by decide +kernel
theorem dM_setsAside_20 : decode (hr_cd 149) 20 = .ok (.iinc 1 1, 3) := by decide +kernel
theorem dM_setsAside_23 : decode (hr_cd 149) 23 = .ok (.goto (-21), 3) := by decide +kernel
theorem dM_setsAside_26 : decode (hr_cd 149) 26 = .ok (.return_, 1) := by decide +kernel
theorem dM_laysBack_0 : decode (hr_cd 150) 0 = .ok (.iconst 0, 1) := by decide +kernel
theorem dM_laysBack_1 : decode (hr_cd 150) 1 = .ok (.istore_n 1, 1) := by decide +kernel
theorem dM_laysBack_2 : decode (hr_cd 150) 2 = .ok (.iload_n 1, 1) := by decide +kernel
theorem dM_laysBack_3 : decode (hr_cd 150) 3 = .ok (.bipush 46, 2) := by decide +kernel
theorem dM_laysBack_5 : decode (hr_cd 150) 5 = .ok (.if_icmp .ge 21, 3) := by decide +kernel
theorem dM_laysBack_8 : decode (hr_cd 150) 8 = .ok (.aload_n 0, 1) := by decide +kernel
theorem dM_laysBack_9 : decode (hr_cd 150) 9 = .ok (.getfield 9, 3) := by decide +kernel
theorem dM_laysBack_12 : decode (hr_cd 150) 12 = .ok (.iload_n 1, 1) := by decide +kernel
theorem dM_laysBack_13 : decode (hr_cd 150) 13 = .ok (.aload_n 0, 1) := by decide +kernel
theorem dM_laysBack_14 : decode (hr_cd 150) 14 = .ok (.getfield 16, 3) := by decide +kernel
theorem dM_laysBack_17 : decode (hr_cd 150) 17 = .ok (.iload_n 1, 1) := by decide +kernel
theorem dM_laysBack_18 : decode (hr_cd 150) 18 = .ok (.iaload, 1) := by decide +kernel
theorem dM_laysBack_19 : decode (hr_cd 150) 19 = .ok (.iastore, 1) := by decide +kernel
theorem dM_laysBack_20 : decode (hr_cd 150) 20 = .ok (.iinc 1 1, 3) := by decide +kernel
theorem dM_laysBack_23 : decode (hr_cd 150) 23 = .ok (.goto (-21), 3) := by decide +kernel
theorem dM_laysBack_26 : decode (hr_cd 150) 26 = .ok (.return_, 1) := by decide +kernel
theorem dM_moved_0 : decode (hr_cd 151) 0 = .ok (.aload_n 0, 1) := by decide +kernel
theorem dM_moved_1 : decode (hr_cd 151) 1 = .ok (.iload_n 1, 1) := by decide +kernel
theorem dM_moved_2 : decode (hr_cd 151) 2 = .ok (.invokevirtual 114, 3) := by decide +kernel
theorem dM_moved_5 : decode (hr_cd 151) 5 = .ok (.ifCond .eq 30, 3) := by decide +kernel
theorem dM_moved_8 : decode (hr_cd 151) 8 = .ok (.iload_n 2, 1) := by decide +kernel
theorem dM_moved_9 : decode (hr_cd 151) 9 = .ok (.iconst 0, 1) := by decide +kernel
theorem dM_moved_10 : decode (hr_cd 151) 10 = .ok (.sipush 200, 3) := by decide +kernel
theorem dM_moved_13 : decode (hr_cd 151) 13 = .ok (.invokestatic 49, 3) := by decide +kernel
theorem dM_moved_16 : decode (hr_cd 151) 16 = .ok (.ifCond .eq 19, 3) := by decide +kernel
theorem dM_moved_19 : decode (hr_cd 151) 19 = .ok (.aload_n 0, 1) := by decide +kernel
theorem dM_moved_20 : decode (hr_cd 151) 20 = .ok (.bipush 6, 2) := by decide +kernel
theorem dM_moved_22 : decode (hr_cd 151) 22 = .ok (.iconst 5, 1) := by decide +kernel
theorem dM_moved_23 : decode (hr_cd 151) 23 = .ok (.iload_n 1, 1) := by decide +kernel
theorem dM_moved_24 : decode (hr_cd 151) 24 = .ok (.imul, 1) := by decide +kernel
theorem dM_moved_25 : decode (hr_cd 151) 25 = .ok (.iadd, 1) := by decide +kernel
theorem dM_moved_26 : decode (hr_cd 151) 26 = .ok (.iconst 1, 1) := by decide +kernel
theorem dM_moved_27 : decode (hr_cd 151) 27 = .ok (.iadd, 1) := by decide +kernel
theorem dM_moved_28 : decode (hr_cd 151) 28 = .ok (.iload_n 2, 1) := by decide +kernel
theorem dM_moved_29 : decode (hr_cd 151) 29 = .ok (.invokevirtual 127, 3) := by decide +kernel
theorem dM_moved_32 : decode (hr_cd 151) 32 = .ok (.goto 8, 3) := by decide +kernel
theorem dM_moved_35 : decode (hr_cd 151) 35 = .ok (.aload_n 0, 1) := by decide +kernel
theorem dM_moved_36 : decode (hr_cd 151) 36 = .ok (.iconst 0, 1) := by decide +kernel
theorem dM_moved_37 : decode (hr_cd 151) 37 = .ok (.invokevirtual 98, 3) := by decide +kernel
theorem dM_moved_40 : decode (hr_cd 151) 40 = .ok (.ireturn, 1) := by decide +kernel
theorem dM_strikes_0 : decode (hr_cd 152) 0 = .ok (.aload_n 0, 1) := by decide +kernel
theorem dM_strikes_1 : decode (hr_cd 152) 1 = .ok (.iconst 4, 1) := by decide +kernel
theorem dM_strikes_2 : decode (hr_cd 152) 2 = .ok (.iconst 1, 1) := by decide +kernel
theorem dM_strikes_3 : decode (hr_cd 152) 3 = .ok (.invokevirtual 134, 3) := by decide +kernel
theorem dM_strikes_6 : decode (hr_cd 152) 6 = .ok (.ireturn, 1) := by decide +kernel
theorem dM_whenBy_0 : decode (hr_cd 153) 0 = .ok (.aload_n 0, 1) := by decide +kernel
theorem dM_whenBy_1 : decode (hr_cd 153) 1 = .ok (.invokevirtual 121, 3) := by decide +kernel
theorem dM_whenBy_4 : decode (hr_cd 153) 4 = .ok (.aload_n 0, 1) := by decide +kernel
theorem dM_whenBy_5 : decode (hr_cd 153) 5 = .ok (.iload_n 1, 1) := by decide +kernel
theorem dM_whenBy_6 : decode (hr_cd 153) 6 = .ok (.iload_n 2, 1) := by decide +kernel
theorem dM_whenBy_7 : decode (hr_cd 153) 7 = .ok (.sipush 200, 3) := by decide +kernel
theorem dM_whenBy_10 : decode (hr_cd 153) 10 = .ok (.invokevirtual 130, 3) := by decide +kernel
theorem dM_whenBy_13 : decode (hr_cd 153) 13 = .ok (.istore_n 3, 1) := by decide +kernel
theorem dM_whenBy_14 : decode (hr_cd 153) 14 = .ok (.iload_n 3, 1) := by decide +kernel
theorem dM_whenBy_15 : decode (hr_cd 153) 15 = .ok (.sipush 200, 3) := by decide +kernel
theorem dM_whenBy_18 : decode (hr_cd 153) 18 = .ok (.if_icmp .le 11, 3) := by decide +kernel
theorem dM_whenBy_21 : decode (hr_cd 153) 21 = .ok (.aload_n 0, 1) := by decide +kernel
theorem dM_whenBy_22 : decode (hr_cd 153) 22 = .ok (.iconst 3, 1) := by decide +kernel
theorem dM_whenBy_23 : decode (hr_cd 153) 23 = .ok (.invokevirtual 98, 3) := by decide +kernel
theorem dM_whenBy_26 : decode (hr_cd 153) 26 = .ok (.goto 4, 3) := by decide +kernel
theorem dM_whenBy_29 : decode (hr_cd 153) 29 = .ok (.iload_n 3, 1) := by decide +kernel
theorem dM_whenBy_30 : decode (hr_cd 153) 30 = .ok (.ireturn, 1) := by decide +kernel
theorem dM_firstBy_0 : decode (hr_cd 154) 0 = .ok (.iconst 0, 1) := by decide +kernel
theorem dM_firstBy_1 : decode (hr_cd 154) 1 = .ok (.istore 4, 2) := by decide +kernel
theorem dM_firstBy_3 : decode (hr_cd 154) 3 = .ok (.iload 4, 2) := by decide +kernel
theorem dM_firstBy_5 : decode (hr_cd 154) 5 = .ok (.iload_n 3, 1) := by decide +kernel
theorem dM_firstBy_6 : decode (hr_cd 154) 6 = .ok (.if_icmp .gt 23, 3) := by decide +kernel
theorem dM_firstBy_9 : decode (hr_cd 154) 9 = .ok (.aload_n 0, 1) := by decide +kernel
theorem dM_firstBy_10 : decode (hr_cd 154) 10 = .ok (.getfield 9, 3) := by decide +kernel
theorem dM_firstBy_13 : decode (hr_cd 154) 13 = .ok (.iload_n 1, 1) := by decide +kernel
theorem dM_firstBy_14 : decode (hr_cd 154) 14 = .ok (.iaload, 1) := by decide +kernel
theorem dM_firstBy_15 : decode (hr_cd 154) 15 = .ok (.iload_n 2, 1) := by decide +kernel
theorem dM_firstBy_16 : decode (hr_cd 154) 16 = .ok (.if_icmp .eq 13, 3) := by decide +kernel
theorem dM_firstBy_19 : decode (hr_cd 154) 19 = .ok (.aload_n 0, 1) := by decide +kernel
theorem dM_firstBy_20 : decode (hr_cd 154) 20 = .ok (.invokevirtual 95, 3) := by decide +kernel
theorem dM_firstBy_23 : decode (hr_cd 154) 23 = .ok (.iinc 4 1, 3) := by decide +kernel
theorem dM_firstBy_26 : decode (hr_cd 154) 26 = .ok (.goto (-23), 3) := by decide +kernel
theorem dM_firstBy_29 : decode (hr_cd 154) 29 = .ok (.aload_n 0, 1) := by decide +kernel
theorem dM_firstBy_30 : decode (hr_cd 154) 30 = .ok (.invokevirtual 124, 3) := by decide +kernel
theorem dM_firstBy_33 : decode (hr_cd 154) 33 = .ok (.iload 4, 2) := by decide +kernel
theorem dM_firstBy_35 : decode (hr_cd 154) 35 = .ok (.ireturn, 1) := by decide +kernel
theorem dM_home_0 : decode (hr_cd 155) 0 = .ok (.aload_n 0, 1) := by decide +kernel
theorem dM_home_1 : decode (hr_cd 155) 1 = .ok (.iconst 4, 1) := by decide +kernel
theorem dM_home_2 : decode (hr_cd 155) 2 = .ok (.iconst 2, 1) := by decide +kernel
theorem dM_home_3 : decode (hr_cd 155) 3 = .ok (.invokevirtual 134, 3) := by decide +kernel
theorem dM_home_6 : decode (hr_cd 155) 6 = .ok (.ireturn, 1) := by decide +kernel
theorem dM_comes_0 : decode (hr_cd 156) 0 = .ok (.iload_n 1, 1) := by decide +kernel
theorem dM_comes_1 : decode (hr_cd 156) 1 = .ok (.invokestatic 107, 3) := by decide +kernel
theorem dM_comes_4 : decode (hr_cd 156) 4 = .ok (.ifCond .eq 12, 3) := by decide +kernel
theorem dM_comes_7 : decode (hr_cd 156) 7 = .ok (.aload_n 0, 1) := by decide +kernel
theorem dM_comes_8 : decode (hr_cd 156) 8 = .ok (.iconst 1, 1) := by decide +kernel
theorem dM_comes_9 : decode (hr_cd 156) 9 = .ok (.iload_n 1, 1) := by decide +kernel
theorem dM_comes_10 : decode (hr_cd 156) 10 = .ok (.invokevirtual 134, 3) := by decide +kernel
theorem dM_comes_13 : decode (hr_cd 156) 13 = .ok (.goto 8, 3) := by decide +kernel
theorem dM_comes_16 : decode (hr_cd 156) 16 = .ok (.aload_n 0, 1) := by decide +kernel
theorem dM_comes_17 : decode (hr_cd 156) 17 = .ok (.iconst 0, 1) := by decide +kernel
theorem dM_comes_18 : decode (hr_cd 156) 18 = .ok (.invokevirtual 98, 3) := by decide +kernel
theorem dM_comes_21 : decode (hr_cd 156) 21 = .ok (.ireturn, 1) := by decide +kernel
theorem dM_ear_0 : decode (hr_cd 157) 0 = .ok (.iconst (-1), 1) := by decide +kernel
theorem dM_ear_1 : decode (hr_cd 157) 1 = .ok (.istore_n 1, 1) := by decide +kernel
theorem dM_ear_2 : decode (hr_cd 157) 2 = .ok (.sipush 201, 3) := by decide +kernel
theorem dM_ear_5 : decode (hr_cd 157) 5 = .ok (.istore_n 2, 1) := by decide +kernel
theorem dM_ear_6 : decode (hr_cd 157) 6 = .ok (.iconst 0, 1) := by decide +kernel
theorem dM_ear_7 : decode (hr_cd 157) 7 = .ok (.istore_n 3, 1) := by decide +kernel
theorem dM_ear_8 : decode (hr_cd 157) 8 = .ok (.iload_n 3, 1) := by decide +kernel
theorem dM_ear_9 : decode (hr_cd 157) 9 = .ok (.bipush 9, 2) := by decide +kernel
theorem dM_ear_11 : decode (hr_cd 157) 11 = .ok (.if_icmp .gt 50, 3) := by decide +kernel
theorem dM_ear_14 : decode (hr_cd 157) 14 = .ok (.aload_n 0, 1) := by decide +kernel
theorem dM_ear_15 : decode (hr_cd 157) 15 = .ok (.invokevirtual 121, 3) := by decide +kernel
theorem dM_ear_18 : decode (hr_cd 157) 18 = .ok (.aload_n 0, 1) := by decide +kernel
theorem dM_ear_19 : decode (hr_cd 157) 19 = .ok (.getfield 9, 3) := by decide +kernel
theorem dM_ear_22 : decode (hr_cd 157) 22 = .ok (.iconst 2, 1) := by decide +kernel
theorem dM_ear_23 : decode (hr_cd 157) 23 = .ok (.iload_n 3, 1) := by decide +kernel
theorem dM_ear_24 : decode (hr_cd 157) 24 = .ok (.iastore, 1) := by decide +kernel
theorem dM_ear_25 : decode (hr_cd 157) 25 = .ok (.aload_n 0, 1) := by decide +kernel
theorem dM_ear_26 : decode (hr_cd 157) 26 = .ok (.iconst 4, 1) := by decide +kernel
theorem dM_ear_27 : decode (hr_cd 157) 27 = .ok (.iconst 2, 1) := by decide +kernel
theorem dM_ear_28 : decode (hr_cd 157) 28 = .ok (.sipush 200, 3) := by decide +kernel
theorem dM_ear_31 : decode (hr_cd 157) 31 = .ok (.invokevirtual 130, 3) := by decide +kernel
theorem dM_ear_34 : decode (hr_cd 157) 34 = .ok (.istore 4, 2) := by decide +kernel
theorem dM_ear_36 : decode (hr_cd 157) 36 = .ok (.iload 4, 2) := by decide +kernel
theorem dM_ear_38 : decode (hr_cd 157) 38 = .ok (.iload_n 2, 1) := by decide +kernel
theorem dM_ear_39 : decode (hr_cd 157) 39 = .ok (.if_icmp .ge 7, 3) := by decide +kernel
theorem dM_ear_42 : decode (hr_cd 157) 42 = .ok (.iload_n 3, 1) := by decide +kernel
theorem dM_ear_43 : decode (hr_cd 157) 43 = .ok (.goto 4, 3) := by decide +kernel
theorem dM_ear_46 : decode (hr_cd 157) 46 = .ok (.iload_n 1, 1) := by decide +kernel
theorem dM_ear_47 : decode (hr_cd 157) 47 = .ok (.istore_n 1, 1) := by decide +kernel
theorem dM_ear_48 : decode (hr_cd 157) 48 = .ok (.iload 4, 2) := by decide +kernel
theorem dM_ear_50 : decode (hr_cd 157) 50 = .ok (.iload_n 2, 1) := by decide +kernel
theorem dM_ear_51 : decode (hr_cd 157) 51 = .ok (.invokestatic 137, 3) := by decide +kernel
theorem dM_ear_54 : decode (hr_cd 157) 54 = .ok (.istore_n 2, 1) := by decide +kernel
theorem dM_ear_55 : decode (hr_cd 157) 55 = .ok (.iinc 3 1, 3) := by decide +kernel
theorem dM_ear_58 : decode (hr_cd 157) 58 = .ok (.goto (-50), 3) := by decide +kernel
theorem dM_ear_61 : decode (hr_cd 157) 61 = .ok (.iload_n 1, 1) := by decide +kernel
theorem dM_ear_62 : decode (hr_cd 157) 62 = .ok (.ifCond .ge 11, 3) := by decide +kernel
theorem dM_ear_65 : decode (hr_cd 157) 65 = .ok (.aload_n 0, 1) := by decide +kernel
theorem dM_ear_66 : decode (hr_cd 157) 66 = .ok (.iconst 3, 1) := by decide +kernel
theorem dM_ear_67 : decode (hr_cd 157) 67 = .ok (.invokevirtual 98, 3) := by decide +kernel
theorem dM_ear_70 : decode (hr_cd 157) 70 = .ok (.goto 4, 3) := by decide +kernel
theorem dM_ear_73 : decode (hr_cd 157) 73 = .ok (.iload_n 1, 1) := by decide +kernel
theorem dM_ear_74 : decode (hr_cd 157) 74 = .ok (.ireturn, 1) := by decide +kernel
theorem dM_less_0 : decode (hr_cd 158) 0 = .ok (.iload_n 0, 1) := by decide +kernel
theorem dM_less_1 : decode (hr_cd 158) 1 = .ok (.iload_n 1, 1) := by decide +kernel
theorem dM_less_2 : decode (hr_cd 158) 2 = .ok (.if_icmp .ge 7, 3) := by decide +kernel
theorem dM_less_5 : decode (hr_cd 158) 5 = .ok (.iload_n 0, 1) := by decide +kernel
theorem dM_less_6 : decode (hr_cd 158) 6 = .ok (.goto 4, 3) := by decide +kernel
theorem dM_less_9 : decode (hr_cd 158) 9 = .ok (.iload_n 1, 1) := by decide +kernel
theorem dM_less_10 : decode (hr_cd 158) 10 = .ok (.ireturn, 1) := by decide +kernel
theorem dM_begin_0 : decode (hr_cd 159) 0 = .ok (.iload_n 1, 1) := by decide +kernel
theorem dM_begin_1 : decode (hr_cd 159) 1 = .ok (.iconst 0, 1) := by decide +kernel
theorem dM_begin_2 : decode (hr_cd 159) 2 = .ok (.bipush 7, 2) := by decide +kernel
theorem dM_begin_4 : decode (hr_cd 159) 4 = .ok (.invokestatic 49, 3) := by decide +kernel
theorem dM_begin_7 : decode (hr_cd 159) 7 = .ok (.ifCond .ne 9, 3) := by decide +kernel
theorem dM_begin_10 : decode (hr_cd 159) 10 = .ok (.aload_n 0, 1) := by decide +kernel
theorem dM_begin_11 : decode (hr_cd 159) 11 = .ok (.iconst 0, 1) := by decide +kernel
theorem dM_begin_12 : decode (hr_cd 159) 12 = .ok (.invokevirtual 98, 3) := by decide +kernel
theorem dM_begin_15 : decode (hr_cd 159) 15 = .ok (.ireturn, 1) := by decide +kernel
theorem dM_begin_16 : decode (hr_cd 159) 16 = .ok (.iconst (-1), 1) := by decide +kernel
theorem dM_begin_17 : decode (hr_cd 159) 17 = .ok (.istore_n 2, 1) := by decide +kernel
theorem dM_begin_18 : decode (hr_cd 159) 18 = .ok (.bipush 101, 2) := by decide +kernel
theorem dM_begin_20 : decode (hr_cd 159) 20 = .ok (.istore_n 3, 1) := by decide +kernel
theorem dM_begin_21 : decode (hr_cd 159) 21 = .ok (.bipush 8, 2) := by decide +kernel
theorem dM_begin_23 : decode (hr_cd 159) 23 = .ok (.iload_n 1, 1) := by decide +kernel
theorem dM_begin_24 : decode (hr_cd 159) 24 = .ok (.imul, 1) := by decide +kernel
theorem dM_begin_25 : decode (hr_cd 159) 25 = .ok (.istore 4, 2) := by decide +kernel
theorem dM_begin_27 : decode (hr_cd 159) 27 = .ok (.iload 4, 2) := by decide +kernel
theorem dM_begin_29 : decode (hr_cd 159) 29 = .ok (.bipush 8, 2) := by decide +kernel
theorem dM_begin_31 : decode (hr_cd 159) 31 = .ok (.iload_n 1, 1) := by decide +kernel
theorem dM_begin_32 : decode (hr_cd 159) 32 = .ok (.imul, 1) := by decide +kernel
theorem dM_begin_33 : decode (hr_cd 159) 33 = .ok (.bipush 8, 2) := by decide +kernel
theorem dM_begin_35 : decode (hr_cd 159) 35 = .ok (.iadd, 1) := by decide +kernel
theorem dM_begin_36 : decode (hr_cd 159) 36 = .ok (.if_icmp .ge 49, 3) := by decide +kernel
theorem dM_begin_39 : decode (hr_cd 159) 39 = .ok (.aload_n 0, 1) := by decide +kernel
theorem dM_begin_40 : decode (hr_cd 159) 40 = .ok (.invokevirtual 121, 3) := by decide +kernel
theorem dM_begin_43 : decode (hr_cd 159) 43 = .ok (.aload_n 0, 1) := by decide +kernel
theorem dM_begin_44 : decode (hr_cd 159) 44 = .ok (.iload 4, 2) := by decide +kernel
theorem dM_begin_46 : decode (hr_cd 159) 46 = .ok (.invokevirtual 101, 3) := by decide +kernel
theorem dM_begin_49 : decode (hr_cd 159) 49 = .ok (.aload_n 0, 1) := by decide +kernel
theorem dM_begin_50 : decode (hr_cd 159) 50 = .ok (.iconst 4, 1) := by decide +kernel
theorem dM_begin_51 : decode (hr_cd 159) 51 = .ok (.iconst 2, 1) := by decide +kernel
theorem dM_begin_52 : decode (hr_cd 159) 52 = .ok (.bipush 100, 2) := by decide +kernel
theorem dM_begin_54 : decode (hr_cd 159) 54 = .ok (.invokevirtual 130, 3) := by decide +kernel
theorem dM_begin_57 : decode (hr_cd 159) 57 = .ok (.istore 5, 2) := by decide +kernel
theorem dM_begin_59 : decode (hr_cd 159) 59 = .ok (.iload 5, 2) := by decide +kernel
theorem dM_begin_61 : decode (hr_cd 159) 61 = .ok (.iload_n 3, 1) := by decide +kernel
theorem dM_begin_62 : decode (hr_cd 159) 62 = .ok (.if_icmp .ge 8, 3) := by decide +kernel
theorem dM_begin_65 : decode (hr_cd 159) 65 = .ok (.iload 4, 2) := by decide +kernel
theorem dM_begin_67 : decode (hr_cd 159) 67 = .ok (.goto 4, 3) := by decide +kernel
theorem dM_begin_70 : decode (hr_cd 159) 70 = .ok (.iload_n 2, 1) := by decide +kernel
theorem dM_begin_71 : decode (hr_cd 159) 71 = .ok (.istore_n 2, 1) := by decide +kernel
theorem dM_begin_72 : decode (hr_cd 159) 72 = .ok (.iload 5, 2) := by decide +kernel
theorem dM_begin_74 : decode (hr_cd 159) 74 = .ok (.iload_n 3, 1) := by decide +kernel
theorem dM_begin_75 : decode (hr_cd 159) 75 = .ok (.invokestatic 137, 3) := by decide +kernel
theorem dM_begin_78 : decode (hr_cd 159) 78 = .ok (.istore_n 3, 1) := by decide +kernel
theorem dM_begin_79 : decode (hr_cd 159) 79 = .ok (.iinc 4 1, 3) := by decide +kernel
theorem dM_begin_82 : decode (hr_cd 159) 82 = .ok (.goto (-55), 3) := by decide +kernel
theorem dM_begin_85 : decode (hr_cd 159) 85 = .ok (.iload_n 2, 1) := by decide +kernel
theorem dM_begin_86 : decode (hr_cd 159) 86 = .ok (.ifCond .ge 11, 3) := by decide +kernel
theorem dM_begin_89 : decode (hr_cd 159) 89 = .ok (.aload_n 0, 1) := by decide +kernel
theorem dM_begin_90 : decode (hr_cd 159) 90 = .ok (.iconst 3, 1) := by decide +kernel
theorem dM_begin_91 : decode (hr_cd 159) 91 = .ok (.invokevirtual 98, 3) := by decide +kernel
theorem dM_begin_94 : decode (hr_cd 159) 94 = .ok (.goto 4, 3) := by decide +kernel
theorem dM_begin_97 : decode (hr_cd 159) 97 = .ok (.iload_n 2, 1) := by decide +kernel
theorem dM_begin_98 : decode (hr_cd 159) 98 = .ok (.ireturn, 1) := by decide +kernel
theorem dM_silence_0 : decode (hr_cd 160) 0 = .ok (.aload_n 0, 1) := by decide +kernel
theorem dM_silence_1 : decode (hr_cd 160) 1 = .ok (.invokevirtual 121, 3) := by decide +kernel
theorem dM_silence_4 : decode (hr_cd 160) 4 = .ok (.aload_n 0, 1) := by decide +kernel
theorem dM_silence_5 : decode (hr_cd 160) 5 = .ok (.iconst 4, 1) := by decide +kernel
theorem dM_silence_6 : decode (hr_cd 160) 6 = .ok (.iconst 2, 1) := by decide +kernel
theorem dM_silence_7 : decode (hr_cd 160) 7 = .ok (.sipush 200, 3) := by decide +kernel
theorem dM_silence_10 : decode (hr_cd 160) 10 = .ok (.invokevirtual 130, 3) := by decide +kernel
theorem dM_silence_13 : decode (hr_cd 160) 13 = .ok (.sipush 201, 3) := by decide +kernel
theorem dM_silence_16 : decode (hr_cd 160) 16 = .ok (.invokestatic 137, 3) := by decide +kernel
theorem dM_silence_19 : decode (hr_cd 160) 19 = .ok (.istore_n 1, 1) := by decide +kernel
theorem dM_silence_20 : decode (hr_cd 160) 20 = .ok (.iconst (-1), 1) := by decide +kernel
theorem dM_silence_21 : decode (hr_cd 160) 21 = .ok (.istore_n 2, 1) := by decide +kernel
theorem dM_silence_22 : decode (hr_cd 160) 22 = .ok (.iconst 0, 1) := by decide +kernel
theorem dM_silence_23 : decode (hr_cd 160) 23 = .ok (.istore_n 3, 1) := by decide +kernel
theorem dM_silence_24 : decode (hr_cd 160) 24 = .ok (.iload_n 3, 1) := by decide +kernel
theorem dM_silence_25 : decode (hr_cd 160) 25 = .ok (.aload_n 0, 1) := by decide +kernel
theorem dM_silence_26 : decode (hr_cd 160) 26 = .ok (.getfield 9, 3) := by decide +kernel
theorem dM_silence_29 : decode (hr_cd 160) 29 = .ok (.iconst 5, 1) := by decide +kernel
theorem dM_silence_30 : decode (hr_cd 160) 30 = .ok (.iaload, 1) := by decide +kernel
theorem dM_silence_31 : decode (hr_cd 160) 31 = .ok (.if_icmp .ge 80, 3) := by decide +kernel
theorem dM_silence_34 : decode (hr_cd 160) 34 = .ok (.aload_n 0, 1) := by decide +kernel
theorem dM_silence_35 : decode (hr_cd 160) 35 = .ok (.invokevirtual 121, 3) := by decide +kernel
theorem dM_silence_38 : decode (hr_cd 160) 38 = .ok (.aload_n 0, 1) := by decide +kernel
theorem dM_silence_39 : decode (hr_cd 160) 39 = .ok (.iload_n 3, 1) := by decide +kernel
theorem dM_silence_40 : decode (hr_cd 160) 40 = .ok (.iconst 4, 1) := by decide +kernel
theorem dM_silence_41 : decode (hr_cd 160) 41 = .ok (.invokevirtual 53, 3) := by decide +kernel
theorem dM_silence_44 : decode (hr_cd 160) 44 = .ok (.ifCond .ne 7, 3) := by decide +kernel
theorem dM_silence_47 : decode (hr_cd 160) 47 = .ok (.iconst 1, 1) := by decide +kernel
theorem dM_silence_48 : decode (hr_cd 160) 48 = .ok (.goto 4, 3) := by decide +kernel
theorem dM_silence_51 : decode (hr_cd 160) 51 = .ok (.iconst 0, 1) := by decide +kernel
theorem dM_silence_52 : decode (hr_cd 160) 52 = .ok (.istore 4, 2) := by decide +kernel
theorem dM_silence_54 : decode (hr_cd 160) 54 = .ok (.aload_n 0, 1) := by decide +kernel
theorem dM_silence_55 : decode (hr_cd 160) 55 = .ok (.iload_n 3, 1) := by decide +kernel
theorem dM_silence_56 : decode (hr_cd 160) 56 = .ok (.iconst 4, 1) := by decide +kernel
theorem dM_silence_57 : decode (hr_cd 160) 57 = .ok (.iconst 1, 1) := by decide +kernel
theorem dM_silence_58 : decode (hr_cd 160) 58 = .ok (.invokevirtual 84, 3) := by decide +kernel
theorem dM_silence_61 : decode (hr_cd 160) 61 = .ok (.aload_n 0, 1) := by decide +kernel
theorem dM_silence_62 : decode (hr_cd 160) 62 = .ok (.iconst 4, 1) := by decide +kernel
theorem dM_silence_63 : decode (hr_cd 160) 63 = .ok (.iconst 2, 1) := by decide +kernel
theorem dM_silence_64 : decode (hr_cd 160) 64 = .ok (.sipush 200, 3) := by decide +kernel
theorem dM_silence_67 : decode (hr_cd 160) 67 = .ok (.invokevirtual 130, 3) := by decide +kernel
theorem dM_silence_70 : decode (hr_cd 160) 70 = .ok (.istore 5, 2) := by decide +kernel
theorem dM_silence_72 : decode (hr_cd 160) 72 = .ok (.iload 4, 2) := by decide +kernel
theorem dM_silence_74 : decode (hr_cd 160) 74 = .ok (.ifCond .eq 13, 3) := by decide +kernel
theorem dM_silence_77 : decode (hr_cd 160) 77 = .ok (.iload 5, 2) := by decide +kernel
theorem dM_silence_79 : decode (hr_cd 160) 79 = .ok (.iload_n 1, 1) := by decide +kernel
theorem dM_silence_80 : decode (hr_cd 160) 80 = .ok (.if_icmp .ge 7, 3) := by decide +kernel
theorem dM_silence_83 : decode (hr_cd 160) 83 = .ok (.iload_n 3, 1) := by decide +kernel
theorem dM_silence_84 : decode (hr_cd 160) 84 = .ok (.goto 4, 3) := by decide +kernel
theorem dM_silence_87 : decode (hr_cd 160) 87 = .ok (.iload_n 2, 1) := by decide +kernel
theorem dM_silence_88 : decode (hr_cd 160) 88 = .ok (.istore_n 2, 1) := by decide +kernel
theorem dM_silence_89 : decode (hr_cd 160) 89 = .ok (.iload 4, 2) := by decide +kernel
theorem dM_silence_91 : decode (hr_cd 160) 91 = .ok (.ifCond .eq 12, 3) := by decide +kernel
theorem dM_silence_94 : decode (hr_cd 160) 94 = .ok (.iload 5, 2) := by decide +kernel
theorem dM_silence_96 : decode (hr_cd 160) 96 = .ok (.iload_n 1, 1) := by decide +kernel
theorem dM_silence_97 : decode (hr_cd 160) 97 = .ok (.invokestatic 137, 3) := by decide +kernel
theorem dM_silence_100 : decode (hr_cd 160) 100 = .ok (.goto 4, 3) := by decide +kernel
theorem dM_silence_103 : decode (hr_cd 160) 103 = .ok (.iload_n 1, 1) := by decide +kernel
theorem dM_silence_104 : decode (hr_cd 160) 104 = .ok (.istore_n 1, 1) := by decide +kernel
theorem dM_silence_105 : decode (hr_cd 160) 105 = .ok (.iinc 3 1, 3) := by decide +kernel
theorem dM_silence_108 : decode (hr_cd 160) 108 = .ok (.goto (-84), 3) := by decide +kernel
theorem dM_silence_111 : decode (hr_cd 160) 111 = .ok (.iload_n 2, 1) := by decide +kernel
theorem dM_silence_112 : decode (hr_cd 160) 112 = .ok (.ifCond .ge 11, 3) := by decide +kernel
theorem dM_silence_115 : decode (hr_cd 160) 115 = .ok (.aload_n 0, 1) := by decide +kernel
theorem dM_silence_116 : decode (hr_cd 160) 116 = .ok (.iconst 3, 1) := by decide +kernel
theorem dM_silence_117 : decode (hr_cd 160) 117 = .ok (.invokevirtual 98, 3) := by decide +kernel
theorem dM_silence_120 : decode (hr_cd 160) 120 = .ok (.goto 4, 3) := by decide +kernel
theorem dM_silence_123 : decode (hr_cd 160) 123 = .ok (.iload_n 2, 1) := by decide +kernel
theorem dM_silence_124 : decode (hr_cd 160) 124 = .ok (.ireturn, 1) := by decide +kernel
theorem dM_kind_0 : decode (hr_cd 161) 0 = .ok (.aload_n 0, 1) := by decide +kernel
theorem dM_kind_1 : decode (hr_cd 161) 1 = .ok (.iload_n 1, 1) := by decide +kernel
theorem dM_kind_2 : decode (hr_cd 161) 2 = .ok (.invokevirtual 114, 3) := by decide +kernel
theorem dM_kind_5 : decode (hr_cd 161) 5 = .ok (.ifCond .ne 9, 3) := by decide +kernel
theorem dM_kind_8 : decode (hr_cd 161) 8 = .ok (.aload_n 0, 1) := by decide +kernel
theorem dM_kind_9 : decode (hr_cd 161) 9 = .ok (.iconst 0, 1) := by decide +kernel
theorem dM_kind_10 : decode (hr_cd 161) 10 = .ok (.invokevirtual 98, 3) := by decide +kernel
theorem dM_kind_13 : decode (hr_cd 161) 13 = .ok (.ireturn, 1) := by decide +kernel
theorem dM_kind_14 : decode (hr_cd 161) 14 = .ok (.iconst (-1), 1) := by decide +kernel
theorem dM_kind_15 : decode (hr_cd 161) 15 = .ok (.istore_n 2, 1) := by decide +kernel
theorem dM_kind_16 : decode (hr_cd 161) 16 = .ok (.sipush 201, 3) := by decide +kernel
theorem dM_kind_19 : decode (hr_cd 161) 19 = .ok (.istore_n 3, 1) := by decide +kernel
theorem dM_kind_20 : decode (hr_cd 161) 20 = .ok (.iconst 0, 1) := by decide +kernel
theorem dM_kind_21 : decode (hr_cd 161) 21 = .ok (.istore 4, 2) := by decide +kernel
theorem dM_kind_23 : decode (hr_cd 161) 23 = .ok (.iload 4, 2) := by decide +kernel
theorem dM_kind_25 : decode (hr_cd 161) 25 = .ok (.bipush 6, 2) := by decide +kernel
theorem dM_kind_27 : decode (hr_cd 161) 27 = .ok (.if_icmp .ge 52, 3) := by decide +kernel
theorem dM_kind_30 : decode (hr_cd 161) 30 = .ok (.aload_n 0, 1) := by decide +kernel
theorem dM_kind_31 : decode (hr_cd 161) 31 = .ok (.invokevirtual 121, 3) := by decide +kernel
theorem dM_kind_34 : decode (hr_cd 161) 34 = .ok (.aload_n 0, 1) := by decide +kernel
theorem dM_kind_35 : decode (hr_cd 161) 35 = .ok (.iload_n 1, 1) := by decide +kernel
theorem dM_kind_36 : decode (hr_cd 161) 36 = .ok (.iconst 0, 1) := by decide +kernel
theorem dM_kind_37 : decode (hr_cd 161) 37 = .ok (.iload 4, 2) := by decide +kernel
theorem dM_kind_39 : decode (hr_cd 161) 39 = .ok (.invokevirtual 84, 3) := by decide +kernel
theorem dM_kind_42 : decode (hr_cd 161) 42 = .ok (.aload_n 0, 1) := by decide +kernel
theorem dM_kind_43 : decode (hr_cd 161) 43 = .ok (.iconst 4, 1) := by decide +kernel
theorem dM_kind_44 : decode (hr_cd 161) 44 = .ok (.iconst 2, 1) := by decide +kernel
theorem dM_kind_45 : decode (hr_cd 161) 45 = .ok (.sipush 200, 3) := by decide +kernel
theorem dM_kind_48 : decode (hr_cd 161) 48 = .ok (.invokevirtual 130, 3) := by decide +kernel
theorem dM_kind_51 : decode (hr_cd 161) 51 = .ok (.istore 5, 2) := by decide +kernel
theorem dM_kind_53 : decode (hr_cd 161) 53 = .ok (.iload 5, 2) := by decide +kernel
theorem dM_kind_55 : decode (hr_cd 161) 55 = .ok (.iload_n 3, 1) := by decide +kernel
theorem dM_kind_56 : decode (hr_cd 161) 56 = .ok (.if_icmp .ge 8, 3) := by decide +kernel
theorem dM_kind_59 : decode (hr_cd 161) 59 = .ok (.iload 4, 2) := by decide +kernel
theorem dM_kind_61 : decode (hr_cd 161) 61 = .ok (.goto 4, 3) := by decide +kernel
theorem dM_kind_64 : decode (hr_cd 161) 64 = .ok (.iload_n 2, 1) := by decide +kernel
theorem dM_kind_65 : decode (hr_cd 161) 65 = .ok (.istore_n 2, 1) := by decide +kernel
theorem dM_kind_66 : decode (hr_cd 161) 66 = .ok (.iload 5, 2) := by decide +kernel
theorem dM_kind_68 : decode (hr_cd 161) 68 = .ok (.iload_n 3, 1) := by decide +kernel
theorem dM_kind_69 : decode (hr_cd 161) 69 = .ok (.invokestatic 137, 3) := by decide +kernel
theorem dM_kind_72 : decode (hr_cd 161) 72 = .ok (.istore_n 3, 1) := by decide +kernel
theorem dM_kind_73 : decode (hr_cd 161) 73 = .ok (.iinc 4 1, 3) := by decide +kernel
theorem dM_kind_76 : decode (hr_cd 161) 76 = .ok (.goto (-53), 3) := by decide +kernel
theorem dM_kind_79 : decode (hr_cd 161) 79 = .ok (.iload_n 2, 1) := by decide +kernel
theorem dM_kind_80 : decode (hr_cd 161) 80 = .ok (.ifCond .ge 11, 3) := by decide +kernel
theorem dM_kind_83 : decode (hr_cd 161) 83 = .ok (.aload_n 0, 1) := by decide +kernel
theorem dM_kind_84 : decode (hr_cd 161) 84 = .ok (.iconst 3, 1) := by decide +kernel
theorem dM_kind_85 : decode (hr_cd 161) 85 = .ok (.invokevirtual 98, 3) := by decide +kernel
theorem dM_kind_88 : decode (hr_cd 161) 88 = .ok (.goto 4, 3) := by decide +kernel
theorem dM_kind_91 : decode (hr_cd 161) 91 = .ok (.iload_n 2, 1) := by decide +kernel
theorem dM_kind_92 : decode (hr_cd 161) 92 = .ok (.ireturn, 1) := by decide +kernel
theorem dM_horn_0 : decode (hr_cd 162) 0 = .ok (.aload_n 0, 1) := by decide +kernel
theorem dM_horn_1 : decode (hr_cd 162) 1 = .ok (.iload_n 1, 1) := by decide +kernel
theorem dM_horn_2 : decode (hr_cd 162) 2 = .ok (.invokevirtual 114, 3) := by decide +kernel
theorem dM_horn_5 : decode (hr_cd 162) 5 = .ok (.ifCond .eq 13, 3) := by decide +kernel
theorem dM_horn_8 : decode (hr_cd 162) 8 = .ok (.iload_n 2, 1) := by decide +kernel
theorem dM_horn_9 : decode (hr_cd 162) 9 = .ok (.iconst 1, 1) := by decide +kernel
theorem dM_horn_10 : decode (hr_cd 162) 10 = .ok (.bipush 100, 2) := by decide +kernel
theorem dM_horn_12 : decode (hr_cd 162) 12 = .ok (.invokestatic 49, 3) := by decide +kernel
theorem dM_horn_15 : decode (hr_cd 162) 15 = .ok (.ifCond .ne 9, 3) := by decide +kernel
theorem dM_horn_18 : decode (hr_cd 162) 18 = .ok (.aload_n 0, 1) := by decide +kernel
theorem dM_horn_19 : decode (hr_cd 162) 19 = .ok (.iconst 0, 1) := by decide +kernel
theorem dM_horn_20 : decode (hr_cd 162) 20 = .ok (.invokevirtual 98, 3) := by decide +kernel
theorem dM_horn_23 : decode (hr_cd 162) 23 = .ok (.ireturn, 1) := by decide +kernel
theorem dM_horn_24 : decode (hr_cd 162) 24 = .ok (.bipush 99, 2) := by decide +kernel
theorem dM_horn_26 : decode (hr_cd 162) 26 = .ok (.istore_n 3, 1) := by decide +kernel
theorem dM_horn_27 : decode (hr_cd 162) 27 = .ok (.iload_n 3, 1) := by decide +kernel
theorem dM_horn_28 : decode (hr_cd 162) 28 = .ok (.ifCond .lt 33, 3) := by decide +kernel
theorem dM_horn_31 : decode (hr_cd 162) 31 = .ok (.aload_n 0, 1) := by decide +kernel
theorem dM_horn_32 : decode (hr_cd 162) 32 = .ok (.invokevirtual 121, 3) := by decide +kernel
theorem dM_horn_35 : decode (hr_cd 162) 35 = .ok (.aload_n 0, 1) := by decide +kernel
theorem dM_horn_36 : decode (hr_cd 162) 36 = .ok (.iload_n 1, 1) := by decide +kernel
theorem dM_horn_37 : decode (hr_cd 162) 37 = .ok (.iconst 2, 1) := by decide +kernel
theorem dM_horn_38 : decode (hr_cd 162) 38 = .ok (.iload_n 3, 1) := by decide +kernel
theorem dM_horn_39 : decode (hr_cd 162) 39 = .ok (.invokevirtual 84, 3) := by decide +kernel
theorem dM_horn_42 : decode (hr_cd 162) 42 = .ok (.aload_n 0, 1) := by decide +kernel
theorem dM_horn_43 : decode (hr_cd 162) 43 = .ok (.iconst 4, 1) := by decide +kernel
theorem dM_horn_44 : decode (hr_cd 162) 44 = .ok (.iconst 2, 1) := by decide +kernel
theorem dM_horn_45 : decode (hr_cd 162) 45 = .ok (.iload_n 2, 1) := by decide +kernel
theorem dM_horn_46 : decode (hr_cd 162) 46 = .ok (.invokevirtual 130, 3) := by decide +kernel
theorem dM_horn_49 : decode (hr_cd 162) 49 = .ok (.iload_n 2, 1) := by decide +kernel
theorem dM_horn_50 : decode (hr_cd 162) 50 = .ok (.if_icmp .gt 5, 3) := by decide +kernel
theorem dM_horn_53 : decode (hr_cd 162) 53 = .ok (.iload_n 3, 1) := by decide +kernel
theorem dM_horn_54 : decode (hr_cd 162) 54 = .ok (.ireturn, 1) := by decide +kernel
theorem dM_horn_55 : decode (hr_cd 162) 55 = .ok (.iinc 3 (-1), 3) := by decide +kernel
theorem dM_horn_58 : decode (hr_cd 162) 58 = .ok (.goto (-31), 3) := by decide +kernel
theorem dM_horn_61 : decode (hr_cd 162) 61 = .ok (.aload_n 0, 1) := by decide +kernel
theorem dM_horn_62 : decode (hr_cd 162) 62 = .ok (.iconst 3, 1) := by decide +kernel
theorem dM_horn_63 : decode (hr_cd 162) 63 = .ok (.invokevirtual 98, 3) := by decide +kernel
theorem dM_horn_66 : decode (hr_cd 162) 66 = .ok (.ireturn, 1) := by decide +kernel
theorem dM_fewest_0 : decode (hr_cd 163) 0 = .ok (.iload_n 1, 1) := by decide +kernel
theorem dM_fewest_1 : decode (hr_cd 163) 1 = .ok (.iconst 1, 1) := by decide +kernel
theorem dM_fewest_2 : decode (hr_cd 163) 2 = .ok (.bipush 40, 2) := by decide +kernel
theorem dM_fewest_4 : decode (hr_cd 163) 4 = .ok (.invokestatic 49, 3) := by decide +kernel
theorem dM_fewest_7 : decode (hr_cd 163) 7 = .ok (.ifCond .ne 9, 3) := by decide +kernel
theorem dM_fewest_10 : decode (hr_cd 163) 10 = .ok (.aload_n 0, 1) := by decide +kernel
theorem dM_fewest_11 : decode (hr_cd 163) 11 = .ok (.iconst 0, 1) := by decide +kernel
theorem dM_fewest_12 : decode (hr_cd 163) 12 = .ok (.invokevirtual 98, 3) := by decide +kernel
theorem dM_fewest_15 : decode (hr_cd 163) 15 = .ok (.ireturn, 1) := by decide +kernel
theorem dM_fewest_16 : decode (hr_cd 163) 16 = .ok (.iconst (-1), 1) := by decide +kernel
theorem dM_fewest_17 : decode (hr_cd 163) 17 = .ok (.istore_n 2, 1) := by decide +kernel
theorem dM_fewest_18 : decode (hr_cd 163) 18 = .ok (.iconst 0, 1) := by decide +kernel
theorem dM_fewest_19 : decode (hr_cd 163) 19 = .ok (.istore_n 3, 1) := by decide +kernel
theorem dM_fewest_20 : decode (hr_cd 163) 20 = .ok (.iload_n 3, 1) := by decide +kernel
theorem dM_fewest_21 : decode (hr_cd 163) 21 = .ok (.iconst 1, 1) := by decide +kernel
theorem dM_fewest_22 : decode (hr_cd 163) 22 = .ok (.aload_n 0, 1) := by decide +kernel
theorem dM_fewest_23 : decode (hr_cd 163) 23 = .ok (.getfield 9, 3) := by decide +kernel
theorem dM_fewest_26 : decode (hr_cd 163) 26 = .ok (.iconst 5, 1) := by decide +kernel
theorem dM_fewest_27 : decode (hr_cd 163) 27 = .ok (.iaload, 1) := by decide +kernel
theorem dM_fewest_28 : decode (hr_cd 163) 28 = .ok (.ishl, 1) := by decide +kernel
theorem dM_fewest_29 : decode (hr_cd 163) 29 = .ok (.if_icmp .ge 51, 3) := by decide +kernel
theorem dM_fewest_32 : decode (hr_cd 163) 32 = .ok (.iload_n 2, 1) := by decide +kernel
theorem dM_fewest_33 : decode (hr_cd 163) 33 = .ok (.ifCond .lt 14, 3) := by decide +kernel
theorem dM_fewest_36 : decode (hr_cd 163) 36 = .ok (.iload_n 3, 1) := by decide +kernel
theorem dM_fewest_37 : decode (hr_cd 163) 37 = .ok (.invokestatic 140, 3) := by decide +kernel
theorem dM_fewest_40 : decode (hr_cd 163) 40 = .ok (.iload_n 2, 1) := by decide +kernel
theorem dM_fewest_41 : decode (hr_cd 163) 41 = .ok (.invokestatic 140, 3) := by decide +kernel
theorem dM_fewest_44 : decode (hr_cd 163) 44 = .ok (.if_icmp .ge 7, 3) := by decide +kernel
theorem dM_fewest_47 : decode (hr_cd 163) 47 = .ok (.iconst 1, 1) := by decide +kernel
theorem dM_fewest_48 : decode (hr_cd 163) 48 = .ok (.goto 4, 3) := by decide +kernel
theorem dM_fewest_51 : decode (hr_cd 163) 51 = .ok (.iconst 0, 1) := by decide +kernel
theorem dM_fewest_52 : decode (hr_cd 163) 52 = .ok (.istore 4, 2) := by decide +kernel
theorem dM_fewest_54 : decode (hr_cd 163) 54 = .ok (.iload 4, 2) := by decide +kernel
theorem dM_fewest_56 : decode (hr_cd 163) 56 = .ok (.ifCond .eq 16, 3) := by decide +kernel
theorem dM_fewest_59 : decode (hr_cd 163) 59 = .ok (.aload_n 0, 1) := by decide +kernel
theorem dM_fewest_60 : decode (hr_cd 163) 60 = .ok (.iload_n 3, 1) := by decide +kernel
theorem dM_fewest_61 : decode (hr_cd 163) 61 = .ok (.iload_n 1, 1) := by decide +kernel
theorem dM_fewest_62 : decode (hr_cd 163) 62 = .ok (.invokevirtual 143, 3) := by decide +kernel
theorem dM_fewest_65 : decode (hr_cd 163) 65 = .ok (.ifCond .eq 7, 3) := by decide +kernel
theorem dM_fewest_68 : decode (hr_cd 163) 68 = .ok (.iload_n 3, 1) := by decide +kernel
theorem dM_fewest_69 : decode (hr_cd 163) 69 = .ok (.goto 4, 3) := by decide +kernel
theorem dM_fewest_72 : decode (hr_cd 163) 72 = .ok (.iload_n 2, 1) := by decide +kernel
theorem dM_fewest_73 : decode (hr_cd 163) 73 = .ok (.istore_n 2, 1) := by decide +kernel
theorem dM_fewest_74 : decode (hr_cd 163) 74 = .ok (.iinc 3 1, 3) := by decide +kernel
theorem dM_fewest_77 : decode (hr_cd 163) 77 = .ok (.goto (-57), 3) := by decide +kernel
theorem dM_fewest_80 : decode (hr_cd 163) 80 = .ok (.iload_n 2, 1) := by decide +kernel
theorem dM_fewest_81 : decode (hr_cd 163) 81 = .ok (.ifCond .ge 11, 3) := by decide +kernel
theorem dM_fewest_84 : decode (hr_cd 163) 84 = .ok (.aload_n 0, 1) := by decide +kernel
theorem dM_fewest_85 : decode (hr_cd 163) 85 = .ok (.iconst 3, 1) := by decide +kernel
theorem dM_fewest_86 : decode (hr_cd 163) 86 = .ok (.invokevirtual 98, 3) := by decide +kernel
theorem dM_fewest_89 : decode (hr_cd 163) 89 = .ok (.goto 4, 3) := by decide +kernel
theorem dM_fewest_92 : decode (hr_cd 163) 92 = .ok (.iload_n 2, 1) := by decide +kernel
theorem dM_fewest_93 : decode (hr_cd 163) 93 = .ok (.ireturn, 1) := by decide +kernel
theorem dM_bits_0 : decode (hr_cd 164) 0 = .ok (.iconst 0, 1) := by decide +kernel
theorem dM_bits_1 : decode (hr_cd 164) 1 = .ok (.istore_n 1, 1) := by decide +kernel
theorem dM_bits_2 : decode (hr_cd 164) 2 = .ok (.iload_n 0, 1) := by decide +kernel
theorem dM_bits_3 : decode (hr_cd 164) 3 = .ok (.istore_n 2, 1) := by decide +kernel
theorem dM_bits_4 : decode (hr_cd 164) 4 = .ok (.iload_n 2, 1) := by decide +kernel
theorem dM_bits_5 : decode (hr_cd 164) 5 = .ok (.ifCond .eq 15, 3) := by decide +kernel
theorem dM_bits_8 : decode (hr_cd 164) 8 = .ok (.iinc 1 1, 3) := by decide +kernel
theorem dM_bits_11 : decode (hr_cd 164) 11 = .ok (.iload_n 2, 1) := by decide +kernel
theorem dM_bits_12 : decode (hr_cd 164) 12 = .ok (.iload_n 2, 1) := by decide +kernel
theorem dM_bits_13 : decode (hr_cd 164) 13 = .ok (.iconst 1, 1) := by decide +kernel
theorem dM_bits_14 : decode (hr_cd 164) 14 = .ok (.isub, 1) := by decide +kernel
theorem dM_bits_15 : decode (hr_cd 164) 15 = .ok (.iand, 1) := by decide +kernel
theorem dM_bits_16 : decode (hr_cd 164) 16 = .ok (.istore_n 2, 1) := by decide +kernel
theorem dM_bits_17 : decode (hr_cd 164) 17 = .ok (.goto (-13), 3) := by decide +kernel
theorem dM_bits_20 : decode (hr_cd 164) 20 = .ok (.iload_n 1, 1) := by decide +kernel
theorem dM_bits_21 : decode (hr_cd 164) 21 = .ok (.ireturn, 1) := by decide +kernel
theorem dM_isSafeBy_0 : decode (hr_cd 165) 0 = .ok (.aload_n 0, 1) := by decide +kernel
theorem dM_isSafeBy_1 : decode (hr_cd 165) 1 = .ok (.invokevirtual 121, 3) := by decide +kernel
theorem dM_isSafeBy_4 : decode (hr_cd 165) 4 = .ok (.iconst 0, 1) := by decide +kernel
theorem dM_isSafeBy_5 : decode (hr_cd 165) 5 = .ok (.istore_n 3, 1) := by decide +kernel
theorem dM_isSafeBy_6 : decode (hr_cd 165) 6 = .ok (.iload_n 3, 1) := by decide +kernel
theorem dM_isSafeBy_7 : decode (hr_cd 165) 7 = .ok (.aload_n 0, 1) := by decide +kernel
theorem dM_isSafeBy_8 : decode (hr_cd 165) 8 = .ok (.getfield 9, 3) := by decide +kernel
theorem dM_isSafeBy_11 : decode (hr_cd 165) 11 = .ok (.iconst 5, 1) := by decide +kernel
theorem dM_isSafeBy_12 : decode (hr_cd 165) 12 = .ok (.iaload, 1) := by decide +kernel
theorem dM_isSafeBy_13 : decode (hr_cd 165) 13 = .ok (.if_icmp .ge 34, 3) := by decide +kernel
theorem dM_isSafeBy_16 : decode (hr_cd 165) 16 = .ok (.aload_n 0, 1) := by decide +kernel
theorem dM_isSafeBy_17 : decode (hr_cd 165) 17 = .ok (.iload_n 3, 1) := by decide +kernel
theorem dM_isSafeBy_18 : decode (hr_cd 165) 18 = .ok (.iconst 4, 1) := by decide +kernel
theorem dM_isSafeBy_19 : decode (hr_cd 165) 19 = .ok (.iload_n 1, 1) := by decide +kernel
theorem dM_isSafeBy_20 : decode (hr_cd 165) 20 = .ok (.iload_n 3, 1) := by decide +kernel
theorem dM_isSafeBy_21 : decode (hr_cd 165) 21 = .ok (.ishr, 1) := by decide +kernel
theorem dM_isSafeBy_22 : decode (hr_cd 165) 22 = .ok (.iconst 1, 1) := by decide +kernel
theorem dM_isSafeBy_23 : decode (hr_cd 165) 23 = .ok (.iand, 1) := by decide +kernel
theorem dM_isSafeBy_24 : decode (hr_cd 165) 24 = .ok (.iconst 1, 1) := by decide +kernel
theorem dM_isSafeBy_25 : decode (hr_cd 165) 25 = .ok (.if_icmp .ne 7, 3) := by decide +kernel
theorem dM_isSafeBy_28 : decode (hr_cd 165) 28 = .ok (.iconst 1, 1) := by decide +kernel
theorem dM_isSafeBy_29 : decode (hr_cd 165) 29 = .ok (.goto 9, 3) := by decide +kernel
theorem dM_isSafeBy_32 : decode (hr_cd 165) 32 = .ok (.aload_n 0, 1) := by decide +kernel
theorem dM_isSafeBy_33 : decode (hr_cd 165) 33 = .ok (.iload_n 3, 1) := by decide +kernel
theorem dM_isSafeBy_34 : decode (hr_cd 165) 34 = .ok (.iconst 4, 1) := by decide +kernel
theorem dM_isSafeBy_35 : decode (hr_cd 165) 35 = .ok (.invokevirtual 53, 3) := by decide +kernel
theorem dM_isSafeBy_38 : decode (hr_cd 165) 38 = .ok (.invokevirtual 84, 3) := by decide +kernel
theorem dM_isSafeBy_41 : decode (hr_cd 165) 41 = .ok (.iinc 3 1, 3) := by decide +kernel
theorem dM_isSafeBy_44 : decode (hr_cd 165) 44 = .ok (.goto (-38), 3) := by decide +kernel
theorem dM_isSafeBy_47 : decode (hr_cd 165) 47 = .ok (.aload_n 0, 1) := by decide +kernel
theorem dM_isSafeBy_48 : decode (hr_cd 165) 48 = .ok (.iload_n 2, 1) := by decide +kernel
theorem dM_isSafeBy_49 : decode (hr_cd 165) 49 = .ok (.invokevirtual 118, 3) := by decide +kernel
theorem dM_isSafeBy_52 : decode (hr_cd 165) 52 = .ok (.aload_n 0, 1) := by decide +kernel
theorem dM_isSafeBy_53 : decode (hr_cd 165) 53 = .ok (.getfield 9, 3) := by decide +kernel
theorem dM_isSafeBy_56 : decode (hr_cd 165) 56 = .ok (.iconst 4, 1) := by decide +kernel
theorem dM_isSafeBy_57 : decode (hr_cd 165) 57 = .ok (.iaload, 1) := by decide +kernel
theorem dM_isSafeBy_58 : decode (hr_cd 165) 58 = .ok (.iconst 1, 1) := by decide +kernel
theorem dM_isSafeBy_59 : decode (hr_cd 165) 59 = .ok (.if_icmp .eq 7, 3) := by decide +kernel
theorem dM_isSafeBy_62 : decode (hr_cd 165) 62 = .ok (.iconst 1, 1) := by decide +kernel
theorem dM_isSafeBy_63 : decode (hr_cd 165) 63 = .ok (.goto 4, 3) := by decide +kernel
theorem dM_isSafeBy_66 : decode (hr_cd 165) 66 = .ok (.iconst 0, 1) := by decide +kernel
theorem dM_isSafeBy_67 : decode (hr_cd 165) 67 = .ok (.istore_n 3, 1) := by decide +kernel
theorem dM_isSafeBy_68 : decode (hr_cd 165) 68 = .ok (.aload_n 0, 1) := by decide +kernel
theorem dM_isSafeBy_69 : decode (hr_cd 165) 69 = .ok (.invokevirtual 124, 3) := by decide +kernel
theorem dM_isSafeBy_72 : decode (hr_cd 165) 72 = .ok (.iload_n 3, 1) := by decide +kernel
theorem dM_isSafeBy_73 : decode (hr_cd 165) 73 = .ok (.ireturn, 1) := by decide +kernel
theorem dM_feed_0 : decode (hr_cd 166) 0 = .ok (.iload_n 2, 1) := by decide +kernel
theorem dM_feed_1 : decode (hr_cd 166) 1 = .ok (.iconst 1, 1) := by decide +kernel
theorem dM_feed_2 : decode (hr_cd 166) 2 = .ok (.iconst 4, 1) := by decide +kernel
theorem dM_feed_3 : decode (hr_cd 166) 3 = .ok (.invokestatic 49, 3) := by decide +kernel
theorem dM_feed_6 : decode (hr_cd 166) 6 = .ok (.ifCond .ne 9, 3) := by decide +kernel
theorem dM_feed_9 : decode (hr_cd 166) 9 = .ok (.aload_n 0, 1) := by decide +kernel
theorem dM_feed_10 : decode (hr_cd 166) 10 = .ok (.iconst 0, 1) := by decide +kernel
theorem dM_feed_11 : decode (hr_cd 166) 11 = .ok (.invokevirtual 98, 3) := by decide +kernel
theorem dM_feed_14 : decode (hr_cd 166) 14 = .ok (.ireturn, 1) := by decide +kernel
theorem dM_feed_15 : decode (hr_cd 166) 15 = .ok (.aload_n 0, 1) := by decide +kernel
theorem dM_feed_16 : decode (hr_cd 166) 16 = .ok (.getfield 147, 3) := by decide +kernel
theorem dM_feed_19 : decode (hr_cd 166) 19 = .ok (.iload_n 2, 1) := by decide +kernel
theorem dM_feed_20 : decode (hr_cd 166) 20 = .ok (.iadd, 1) := by decide +kernel
theorem dM_feed_21 : decode (hr_cd 166) 21 = .ok (.bipush 120, 2) := by decide +kernel
theorem dM_feed_23 : decode (hr_cd 166) 23 = .ok (.if_icmp .le 9, 3) := by decide +kernel
theorem dM_feed_26 : decode (hr_cd 166) 26 = .ok (.aload_n 0, 1) := by decide +kernel
theorem dM_feed_27 : decode (hr_cd 166) 27 = .ok (.iconst 1, 1) := by decide +kernel
theorem dM_feed_28 : decode (hr_cd 166) 28 = .ok (.invokevirtual 98, 3) := by decide +kernel
theorem dM_feed_31 : decode (hr_cd 166) 31 = .ok (.ireturn, 1) := by decide +kernel
theorem dM_feed_32 : decode (hr_cd 166) 32 = .ok (.iload_n 2, 1) := by decide +kernel
theorem dM_feed_33 : decode (hr_cd 166) 33 = .ok (.iconst 1, 1) := by decide +kernel
theorem dM_feed_34 : decode (hr_cd 166) 34 = .ok (.isub, 1) := by decide +kernel
theorem dM_feed_35 : decode (hr_cd 166) 35 = .ok (.istore_n 3, 1) := by decide +kernel
theorem dM_feed_36 : decode (hr_cd 166) 36 = .ok (.iload_n 3, 1) := by decide +kernel
theorem dM_feed_37 : decode (hr_cd 166) 37 = .ok (.ifCond .lt 38, 3) := by decide +kernel
theorem dM_feed_40 : decode (hr_cd 166) 40 = .ok (.aload_n 0, 1) := by decide +kernel
theorem dM_feed_41 : decode (hr_cd 166) 41 = .ok (.getfield 22, 3) := by decide +kernel
theorem dM_feed_44 : decode (hr_cd 166) 44 = .ok (.aload_n 0, 1) := by decide +kernel
theorem dM_feed_45 : decode (hr_cd 166) 45 = .ok (.getfield 147, 3) := by decide +kernel
theorem dM_feed_48 : decode (hr_cd 166) 48 = .ok (.iload_n 1, 1) := by decide +kernel
theorem dM_feed_49 : decode (hr_cd 166) 49 = .ok (.bipush 8, 2) := by decide +kernel
theorem dM_feed_51 : decode (hr_cd 166) 51 = .ok (.iload_n 3, 1) := by decide +kernel
theorem dM_feed_52 : decode (hr_cd 166) 52 = .ok (.imul, 1) := by decide +kernel
theorem dM_feed_53 : decode (hr_cd 166) 53 = .ok (.ishr, 1) := by decide +kernel
theorem dM_feed_54 : decode (hr_cd 166) 54 = .ok (.sipush 255, 3) := by decide +kernel
theorem dM_feed_57 : decode (hr_cd 166) 57 = .ok (.iand, 1) := by decide +kernel
theorem dM_feed_58 : decode (hr_cd 166) 58 = .ok (.iastore, 1) := by decide +kernel
theorem dM_feed_59 : decode (hr_cd 166) 59 = .ok (.aload_n 0, 1) := by decide +kernel
theorem dM_feed_60 : decode (hr_cd 166) 60 = .ok (.dup, 1) := by decide +kernel
theorem dM_feed_61 : decode (hr_cd 166) 61 = .ok (.getfield 147, 3) := by decide +kernel
theorem dM_feed_64 : decode (hr_cd 166) 64 = .ok (.iconst 1, 1) := by decide +kernel
theorem dM_feed_65 : decode (hr_cd 166) 65 = .ok (.iadd, 1) := by decide +kernel
theorem dM_feed_66 : decode (hr_cd 166) 66 = .ok (.putfield 147, 3) := by decide +kernel
theorem dM_feed_69 : decode (hr_cd 166) 69 = .ok (.iinc 3 (-1), 3) := by decide +kernel
theorem dM_feed_72 : decode (hr_cd 166) 72 = .ok (.goto (-36), 3) := by decide +kernel
theorem dM_feed_75 : decode (hr_cd 166) 75 = .ok (.aload_n 0, 1) := by decide +kernel
theorem dM_feed_76 : decode (hr_cd 166) 76 = .ok (.getfield 147, 3) := by decide +kernel
theorem dM_feed_79 : decode (hr_cd 166) 79 = .ok (.ireturn, 1) := by decide +kernel
theorem dM_wipe_0 : decode (hr_cd 167) 0 = .ok (.aload_n 0, 1) := by decide +kernel
theorem dM_wipe_1 : decode (hr_cd 167) 1 = .ok (.getfield 147, 3) := by decide +kernel
theorem dM_wipe_4 : decode (hr_cd 167) 4 = .ok (.istore_n 1, 1) := by decide +kernel
theorem dM_wipe_5 : decode (hr_cd 167) 5 = .ok (.aload_n 0, 1) := by decide +kernel
theorem dM_wipe_6 : decode (hr_cd 167) 6 = .ok (.iconst 0, 1) := by decide +kernel
theorem dM_wipe_7 : decode (hr_cd 167) 7 = .ok (.putfield 147, 3) := by decide +kernel
theorem dM_wipe_10 : decode (hr_cd 167) 10 = .ok (.iload_n 1, 1) := by decide +kernel
theorem dM_wipe_11 : decode (hr_cd 167) 11 = .ok (.ireturn, 1) := by decide +kernel
theorem dM_chart_0 : decode (hr_cd 168) 0 = .ok (.aload_n 0, 1) := by decide +kernel
theorem dM_chart_1 : decode (hr_cd 168) 1 = .ok (.invokevirtual 121, 3) := by decide +kernel
theorem dM_chart_4 : decode (hr_cd 168) 4 = .ok (.aload_n 0, 1) := by decide +kernel
theorem dM_chart_5 : decode (hr_cd 168) 5 = .ok (.iconst 0, 1) := by decide +kernel
theorem dM_chart_6 : decode (hr_cd 168) 6 = .ok (.putfield 151, 3) := by decide +kernel
theorem dM_chart_9 : decode (hr_cd 168) 9 = .ok (.aload_n 0, 1) := by decide +kernel
theorem dM_chart_10 : decode (hr_cd 168) 10 = .ok (.invokevirtual 182, 3) := by decide +kernel
theorem dM_chart_13 : decode (hr_cd 168) 13 = .ok (.iconst 1, 1) := by decide +kernel
theorem dM_chart_14 : decode (hr_cd 168) 14 = .ok (.istore_n 1, 1) := by decide +kernel
theorem dM_chart_15 : decode (hr_cd 168) 15 = .ok (.aload_n 0, 1) := by decide +kernel
theorem dM_chart_16 : decode (hr_cd 168) 16 = .ok (.invokevirtual 199, 3) := by decide +kernel
theorem dM_chart_19 : decode (hr_cd 168) 19 = .ok (.istore_n 2, 1) := by decide +kernel
theorem dM_chart_20 : decode (hr_cd 168) 20 = .ok (.iload_n 2, 1) := by decide +kernel
theorem dM_chart_21 : decode (hr_cd 168) 21 = .ok (.ifCond .eq 26, 3) := by decide +kernel
theorem dM_chart_24 : decode (hr_cd 168) 24 = .ok (.aload_n 0, 1) := by decide +kernel
theorem dM_chart_25 : decode (hr_cd 168) 25 = .ok (.getfield 161, 3) := by decide +kernel
theorem dM_chart_28 : decode (hr_cd 168) 28 = .ok (.iconst 3, 1) := by decide +kernel
theorem dM_chart_29 : decode (hr_cd 168) 29 = .ok (.if_icmp .ne 18, 3) := by decide +kernel
theorem dM_chart_32 : decode (hr_cd 168) 32 = .ok (.aload_n 0, 1) := by decide +kernel
theorem dM_chart_33 : decode (hr_cd 168) 33 = .ok (.invokevirtual 182, 3) := by decide +kernel
theorem dM_chart_36 : decode (hr_cd 168) 36 = .ok (.aload_n 0, 1) := by decide +kernel
theorem dM_chart_37 : decode (hr_cd 168) 37 = .ok (.invokevirtual 199, 3) := by decide +kernel
theorem dM_chart_40 : decode (hr_cd 168) 40 = .ok (.istore_n 2, 1) := by decide +kernel
theorem dM_chart_41 : decode (hr_cd 168) 41 = .ok (.iinc 1 1, 3) := by decide +kernel
theorem dM_chart_44 : decode (hr_cd 168) 44 = .ok (.goto (-24), 3) := by decide +kernel
theorem dM_chart_47 : decode (hr_cd 168) 47 = .ok (.iload_n 2, 1) := by decide +kernel
theorem dM_chart_48 : decode (hr_cd 168) 48 = .ok (.ifCond .eq 14, 3) := by decide +kernel
theorem dM_chart_51 : decode (hr_cd 168) 51 = .ok (.aload_n 0, 1) := by decide +kernel
theorem dM_chart_52 : decode (hr_cd 168) 52 = .ok (.getfield 161, 3) := by decide +kernel
theorem dM_chart_55 : decode (hr_cd 168) 55 = .ok (.ifCond .ne 7, 3) := by decide +kernel
theorem dM_chart_58 : decode (hr_cd 168) 58 = .ok (.iconst 1, 1) := by decide +kernel
theorem dM_chart_59 : decode (hr_cd 168) 59 = .ok (.goto 4, 3) := by decide +kernel
theorem dM_chart_62 : decode (hr_cd 168) 62 = .ok (.iconst 0, 1) := by decide +kernel
theorem dM_chart_63 : decode (hr_cd 168) 63 = .ok (.istore_n 2, 1) := by decide +kernel
theorem dM_chart_64 : decode (hr_cd 168) 64 = .ok (.aload_n 0, 1) := by decide +kernel
theorem dM_chart_65 : decode (hr_cd 168) 65 = .ok (.iconst 0, 1) := by decide +kernel
theorem dM_chart_66 : decode (hr_cd 168) 66 = .ok (.putfield 147, 3) := by decide +kernel
theorem dM_chart_69 : decode (hr_cd 168) 69 = .ok (.iload_n 2, 1) := by decide +kernel
theorem dM_chart_70 : decode (hr_cd 168) 70 = .ok (.ifCond .ne 14, 3) := by decide +kernel
theorem dM_chart_73 : decode (hr_cd 168) 73 = .ok (.aload_n 0, 1) := by decide +kernel
theorem dM_chart_74 : decode (hr_cd 168) 74 = .ok (.invokevirtual 124, 3) := by decide +kernel
theorem dM_chart_77 : decode (hr_cd 168) 77 = .ok (.iconst (-1), 1) := by decide +kernel
theorem dM_chart_78 : decode (hr_cd 168) 78 = .ok (.aload_n 0, 1) := by decide +kernel
theorem dM_chart_79 : decode (hr_cd 168) 79 = .ok (.getfield 154, 3) := by decide +kernel
theorem dM_chart_82 : decode (hr_cd 168) 82 = .ok (.isub, 1) := by decide +kernel
theorem dM_chart_83 : decode (hr_cd 168) 83 = .ok (.ireturn, 1) := by decide +kernel
theorem dM_chart_84 : decode (hr_cd 168) 84 = .ok (.iload_n 1, 1) := by decide +kernel
theorem dM_chart_85 : decode (hr_cd 168) 85 = .ok (.ireturn, 1) := by decide +kernel
theorem dM_nextToken_0 : decode (hr_cd 169) 0 = .ok (.aload_n 0, 1) := by decide +kernel
theorem dM_nextToken_1 : decode (hr_cd 169) 1 = .ok (.aload_n 0, 1) := by decide +kernel
theorem dM_nextToken_2 : decode (hr_cd 169) 2 = .ok (.getfield 151, 3) := by decide +kernel
theorem dM_nextToken_5 : decode (hr_cd 169) 5 = .ok (.putfield 154, 3) := by decide +kernel
theorem dM_nextToken_8 : decode (hr_cd 169) 8 = .ok (.aload_n 0, 1) := by decide +kernel
theorem dM_nextToken_9 : decode (hr_cd 169) 9 = .ok (.getfield 154, 3) := by decide +kernel
theorem dM_nextToken_12 : decode (hr_cd 169) 12 = .ok (.aload_n 0, 1) := by decide +kernel
theorem dM_nextToken_13 : decode (hr_cd 169) 13 = .ok (.getfield 147, 3) := by decide +kernel
theorem dM_nextToken_16 : decode (hr_cd 169) 16 = .ok (.if_icmp .ge 30, 3) := by decide +kernel
theorem dM_nextToken_19 : decode (hr_cd 169) 19 = .ok (.aload_n 0, 1) := by decide +kernel
theorem dM_nextToken_20 : decode (hr_cd 169) 20 = .ok (.getfield 22, 3) := by decide +kernel
theorem dM_nextToken_23 : decode (hr_cd 169) 23 = .ok (.aload_n 0, 1) := by decide +kernel
theorem dM_nextToken_24 : decode (hr_cd 169) 24 = .ok (.getfield 154, 3) := by decide +kernel
theorem dM_nextToken_27 : decode (hr_cd 169) 27 = .ok (.iaload, 1) := by decide +kernel
theorem dM_nextToken_28 : decode (hr_cd 169) 28 = .ok (.bipush 32, 2) := by decide +kernel
theorem dM_nextToken_30 : decode (hr_cd 169) 30 = .ok (.if_icmp .ne 16, 3) := by decide +kernel
theorem dM_nextToken_33 : decode (hr_cd 169) 33 = .ok (.aload_n 0, 1) := by decide +kernel
theorem dM_nextToken_34 : decode (hr_cd 169) 34 = .ok (.dup, 1) := by decide +kernel
theorem dM_nextToken_35 : decode (hr_cd 169) 35 = .ok (.getfield 154, 3) := by decide +kernel
theorem dM_nextToken_38 : decode (hr_cd 169) 38 = .ok (.iconst 1, 1) := by decide +kernel
theorem dM_nextToken_39 : decode (hr_cd 169) 39 = .ok (.iadd, 1) := by decide +kernel
theorem dM_nextToken_40 : decode (hr_cd 169) 40 = .ok (.putfield 154, 3) := by decide +kernel
theorem dM_nextToken_43 : decode (hr_cd 169) 43 = .ok (.goto (-35), 3) := by decide +kernel
theorem dM_nextToken_46 : decode (hr_cd 169) 46 = .ok (.aload_n 0, 1) := by decide +kernel
theorem dM_nextToken_47 : decode (hr_cd 169) 47 = .ok (.aload_n 0, 1) := by decide +kernel
theorem dM_nextToken_48 : decode (hr_cd 169) 48 = .ok (.getfield 154, 3) := by decide +kernel
theorem dM_nextToken_51 : decode (hr_cd 169) 51 = .ok (.putfield 151, 3) := by decide +kernel
theorem dM_nextToken_54 : decode (hr_cd 169) 54 = .ok (.aload_n 0, 1) := by decide +kernel
theorem dM_nextToken_55 : decode (hr_cd 169) 55 = .ok (.lconst 0, 1) := by decide +kernel
theorem dM_nextToken_56 : decode (hr_cd 169) 56 = .ok (.putfield 157, 3) := by decide +kernel
theorem dM_nextToken_59 : decode (hr_cd 169) 59 = .ok (.aload_n 0, 1) := by decide +kernel
theorem dM_nextToken_60 : decode (hr_cd 169) 60 = .ok (.getfield 154, 3) := by decide +kernel
theorem dM_nextToken_63 : decode (hr_cd 169) 63 = .ok (.aload_n 0, 1) := by decide +kernel
theorem dM_nextToken_64 : decode (hr_cd 169) 64 = .ok (.getfield 147, 3) := by decide +kernel
theorem dM_nextToken_67 : decode (hr_cd 169) 67 = .ok (.if_icmp .ne 11, 3) := by decide +kernel
theorem dM_nextToken_70 : decode (hr_cd 169) 70 = .ok (.aload_n 0, 1) := by decide +kernel
theorem dM_nextToken_71 : decode (hr_cd 169) 71 = .ok (.iconst 0, 1) := by decide +kernel
theorem dM_nextToken_72 : decode (hr_cd 169) 72 = .ok (.putfield 161, 3) := by decide +kernel
theorem dM_nextToken_75 : decode (hr_cd 169) 75 = .ok (.goto 262, 3) := by decide +kernel
theorem dM_nextToken_78 : decode (hr_cd 169) 78 = .ok (.aload_n 0, 1) := by decide +kernel
theorem dM_nextToken_79 : decode (hr_cd 169) 79 = .ok (.getfield 22, 3) := by decide +kernel
theorem dM_nextToken_82 : decode (hr_cd 169) 82 = .ok (.aload_n 0, 1) := by decide +kernel
theorem dM_nextToken_83 : decode (hr_cd 169) 83 = .ok (.getfield 154, 3) := by decide +kernel
theorem dM_nextToken_86 : decode (hr_cd 169) 86 = .ok (.iaload, 1) := by decide +kernel
theorem dM_nextToken_87 : decode (hr_cd 169) 87 = .ok (.invokestatic 164, 3) := by decide +kernel
theorem dM_nextToken_90 : decode (hr_cd 169) 90 = .ok (.ifCond .eq 92, 3) := by decide +kernel
theorem dM_nextToken_93 : decode (hr_cd 169) 93 = .ok (.aload_n 0, 1) := by decide +kernel
theorem dM_nextToken_94 : decode (hr_cd 169) 94 = .ok (.iconst 1, 1) := by decide +kernel
theorem dM_nextToken_95 : decode (hr_cd 169) 95 = .ok (.putfield 161, 3) := by decide +kernel
theorem dM_nextToken_98 : decode (hr_cd 169) 98 = .ok (.aload_n 0, 1) := by decide +kernel
theorem dM_nextToken_99 : decode (hr_cd 169) 99 = .ok (.getfield 151, 3) := by decide +kernel
theorem dM_nextToken_102 : decode (hr_cd 169) 102 = .ok (.aload_n 0, 1) := by decide +kernel
theorem dM_nextToken_103 : decode (hr_cd 169) 103 = .ok (.getfield 147, 3) := by decide +kernel
theorem dM_nextToken_106 : decode (hr_cd 169) 106 = .ok (.if_icmp .ge 231, 3) := by decide +kernel
theorem dM_nextToken_109 : decode (hr_cd 169) 109 = .ok (.aload_n 0, 1) := by decide +kernel
theorem dM_nextToken_110 : decode (hr_cd 169) 110 = .ok (.getfield 22, 3) := by decide +kernel
theorem dM_nextToken_113 : decode (hr_cd 169) 113 = .ok (.aload_n 0, 1) := by decide +kernel
theorem dM_nextToken_114 : decode (hr_cd 169) 114 = .ok (.getfield 151, 3) := by decide +kernel
theorem dM_nextToken_117 : decode (hr_cd 169) 117 = .ok (.iaload, 1) := by decide +kernel
theorem dM_nextToken_118 : decode (hr_cd 169) 118 = .ok (.invokestatic 164, 3) := by decide +kernel
theorem dM_nextToken_121 : decode (hr_cd 169) 121 = .ok (.ifCond .eq 216, 3) := by decide +kernel
theorem dM_nextToken_124 : decode (hr_cd 169) 124 = .ok (.aload_n 0, 1) := by decide +kernel
theorem dM_nextToken_125 : decode (hr_cd 169) 125 = .ok (.aload_n 0, 1) := by decide +kernel
theorem dM_nextToken_126 : decode (hr_cd 169) 126 = .ok (.getfield 157, 3) := by decide +kernel
theorem dM_nextToken_129 : decode (hr_cd 169) 129 = .ok (.ldc2_w 167, 3) := by decide +kernel
theorem dM_nextToken_132 : decode (hr_cd 169) 132 = .ok (.lcmp, 1) := by decide +kernel
theorem dM_nextToken_133 : decode (hr_cd 169) 133 = .ok (.ifCond .le 10, 3) := by decide +kernel
theorem dM_nextToken_136 : decode (hr_cd 169) 136 = .ok (.aload_n 0, 1) := by decide +kernel
theorem dM_nextToken_137 : decode (hr_cd 169) 137 = .ok (.getfield 157, 3) := by decide +kernel
theorem dM_nextToken_140 : decode (hr_cd 169) 140 = .ok (.goto 26, 3) := by decide +kernel
theorem dM_nextToken_143 : decode (hr_cd 169) 143 = .ok (.aload_n 0, 1) := by decide +kernel
theorem dM_nextToken_144 : decode (hr_cd 169) 144 = .ok (.getfield 157, 3) := by decide +kernel
theorem dM_nextToken_147 : decode (hr_cd 169) 147 = .ok (.ldc2_w 169, 3) := by decide +kernel
theorem dM_nextToken_150 : decode (hr_cd 169) 150 = .ok (.lmul, 1) := by decide +kernel
theorem dM_nextToken_151 : decode (hr_cd 169) 151 = .ok (.aload_n 0, 1) := by decide +kernel
theorem dM_nextToken_152 : decode (hr_cd 169) 152 = .ok (.getfield 22, 3) := by decide +kernel
theorem dM_nextToken_155 : decode (hr_cd 169) 155 = .ok (.aload_n 0, 1) := by decide +kernel
theorem dM_nextToken_156 : decode (hr_cd 169) 156 = .ok (.getfield 151, 3) := by decide +kernel
theorem dM_nextToken_159 : decode (hr_cd 169) 159 = .ok (.iaload, 1) := by decide +kernel
theorem dM_nextToken_160 : decode (hr_cd 169) 160 = .ok (.i2l, 1) := by decide +kernel
theorem dM_nextToken_161 : decode (hr_cd 169) 161 = .ok (.ladd, 1) := by decide +kernel
theorem dM_nextToken_162 : decode (hr_cd 169) 162 = .ok (.ldc2_w 171, 3) := by decide +kernel
theorem dM_nextToken_165 : decode (hr_cd 169) 165 = .ok (.lsub, 1) := by decide +kernel
theorem dM_nextToken_166 : decode (hr_cd 169) 166 = .ok (.putfield 157, 3) := by decide +kernel
theorem dM_nextToken_169 : decode (hr_cd 169) 169 = .ok (.aload_n 0, 1) := by decide +kernel
theorem dM_nextToken_170 : decode (hr_cd 169) 170 = .ok (.dup, 1) := by decide +kernel
theorem dM_nextToken_171 : decode (hr_cd 169) 171 = .ok (.getfield 151, 3) := by decide +kernel
theorem dM_nextToken_174 : decode (hr_cd 169) 174 = .ok (.iconst 1, 1) := by decide +kernel
theorem dM_nextToken_175 : decode (hr_cd 169) 175 = .ok (.iadd, 1) := by decide +kernel
theorem dM_nextToken_176 : decode (hr_cd 169) 176 = .ok (.putfield 151, 3) := by decide +kernel
theorem dM_nextToken_179 : decode (hr_cd 169) 179 = .ok (.goto (-81), 3) := by decide +kernel
theorem dM_nextToken_182 : decode (hr_cd 169) 182 = .ok (.aload_n 0, 1) := by decide +kernel
theorem dM_nextToken_183 : decode (hr_cd 169) 183 = .ok (.getfield 22, 3) := by decide +kernel
theorem dM_nextToken_186 : decode (hr_cd 169) 186 = .ok (.aload_n 0, 1) := by decide +kernel
theorem dM_nextToken_187 : decode (hr_cd 169) 187 = .ok (.getfield 154, 3) := by decide +kernel
theorem dM_nextToken_190 : decode (hr_cd 169) 190 = .ok (.iaload, 1) := by decide +kernel
theorem dM_nextToken_191 : decode (hr_cd 169) 191 = .ok (.invokestatic 173, 3) := by decide +kernel
theorem dM_nextToken_194 : decode (hr_cd 169) 194 = .ok (.ifCond .eq 110, 3) := by decide +kernel
theorem dM_nextToken_197 : decode (hr_cd 169) 197 = .ok (.aload_n 0, 1) := by decide +kernel
theorem dM_nextToken_198 : decode (hr_cd 169) 198 = .ok (.getfield 151, 3) := by decide +kernel
theorem dM_nextToken_201 : decode (hr_cd 169) 201 = .ok (.aload_n 0, 1) := by decide +kernel
theorem dM_nextToken_202 : decode (hr_cd 169) 202 = .ok (.getfield 147, 3) := by decide +kernel
theorem dM_nextToken_205 : decode (hr_cd 169) 205 = .ok (.if_icmp .ge 76, 3) := by decide +kernel
theorem dM_nextToken_208 : decode (hr_cd 169) 208 = .ok (.aload_n 0, 1) := by decide +kernel
theorem dM_nextToken_209 : decode (hr_cd 169) 209 = .ok (.getfield 22, 3) := by decide +kernel
theorem dM_nextToken_212 : decode (hr_cd 169) 212 = .ok (.aload_n 0, 1) := by decide +kernel
theorem dM_nextToken_213 : decode (hr_cd 169) 213 = .ok (.getfield 151, 3) := by decide +kernel
theorem dM_nextToken_216 : decode (hr_cd 169) 216 = .ok (.iaload, 1) := by decide +kernel
theorem dM_nextToken_217 : decode (hr_cd 169) 217 = .ok (.invokestatic 173, 3) := by decide +kernel
theorem dM_nextToken_220 : decode (hr_cd 169) 220 = .ok (.ifCond .eq 61, 3) := by decide +kernel
theorem dM_nextToken_223 : decode (hr_cd 169) 223 = .ok (.aload_n 0, 1) := by decide +kernel
theorem dM_nextToken_224 : decode (hr_cd 169) 224 = .ok (.aload_n 0, 1) := by decide +kernel
theorem dM_nextToken_225 : decode (hr_cd 169) 225 = .ok (.getfield 157, 3) := by decide +kernel
theorem dM_nextToken_228 : decode (hr_cd 169) 228 = .ok (.ldc2_w 176, 3) := by decide +kernel
theorem dM_nextToken_231 : decode (hr_cd 169) 231 = .ok (.lcmp, 1) := by decide +kernel
theorem dM_nextToken_232 : decode (hr_cd 169) 232 = .ok (.ifCond .le 10, 3) := by decide +kernel
theorem dM_nextToken_235 : decode (hr_cd 169) 235 = .ok (.aload_n 0, 1) := by decide +kernel
theorem dM_nextToken_236 : decode (hr_cd 169) 236 = .ok (.getfield 157, 3) := by decide +kernel
theorem dM_nextToken_239 : decode (hr_cd 169) 239 = .ok (.goto 26, 3) := by decide +kernel
theorem dM_nextToken_242 : decode (hr_cd 169) 242 = .ok (.aload_n 0, 1) := by decide +kernel
theorem dM_nextToken_243 : decode (hr_cd 169) 243 = .ok (.getfield 157, 3) := by decide +kernel
theorem dM_nextToken_246 : decode (hr_cd 169) 246 = .ok (.ldc2_w 178, 3) := by decide +kernel
theorem dM_nextToken_249 : decode (hr_cd 169) 249 = .ok (.lmul, 1) := by decide +kernel
theorem dM_nextToken_250 : decode (hr_cd 169) 250 = .ok (.aload_n 0, 1) := by decide +kernel
theorem dM_nextToken_251 : decode (hr_cd 169) 251 = .ok (.getfield 22, 3) := by decide +kernel
theorem dM_nextToken_254 : decode (hr_cd 169) 254 = .ok (.aload_n 0, 1) := by decide +kernel
theorem dM_nextToken_255 : decode (hr_cd 169) 255 = .ok (.getfield 151, 3) := by decide +kernel
theorem dM_nextToken_258 : decode (hr_cd 169) 258 = .ok (.iaload, 1) := by decide +kernel
theorem dM_nextToken_259 : decode (hr_cd 169) 259 = .ok (.i2l, 1) := by decide +kernel
theorem dM_nextToken_260 : decode (hr_cd 169) 260 = .ok (.ladd, 1) := by decide +kernel
theorem dM_nextToken_261 : decode (hr_cd 169) 261 = .ok (.ldc2_w 180, 3) := by decide +kernel
theorem dM_nextToken_264 : decode (hr_cd 169) 264 = .ok (.lsub, 1) := by decide +kernel
theorem dM_nextToken_265 : decode (hr_cd 169) 265 = .ok (.putfield 157, 3) := by decide +kernel
theorem dM_nextToken_268 : decode (hr_cd 169) 268 = .ok (.aload_n 0, 1) := by decide +kernel
theorem dM_nextToken_269 : decode (hr_cd 169) 269 = .ok (.dup, 1) := by decide +kernel
theorem dM_nextToken_270 : decode (hr_cd 169) 270 = .ok (.getfield 151, 3) := by decide +kernel
theorem dM_nextToken_273 : decode (hr_cd 169) 273 = .ok (.iconst 1, 1) := by decide +kernel
theorem dM_nextToken_274 : decode (hr_cd 169) 274 = .ok (.iadd, 1) := by decide +kernel
theorem dM_nextToken_275 : decode (hr_cd 169) 275 = .ok (.putfield 151, 3) := by decide +kernel
theorem dM_nextToken_278 : decode (hr_cd 169) 278 = .ok (.goto (-81), 3) := by decide +kernel
theorem dM_nextToken_281 : decode (hr_cd 169) 281 = .ok (.aload_n 0, 1) := by decide +kernel
theorem dM_nextToken_282 : decode (hr_cd 169) 282 = .ok (.aload_n 0, 1) := by decide +kernel
theorem dM_nextToken_283 : decode (hr_cd 169) 283 = .ok (.getfield 157, 3) := by decide +kernel
theorem dM_nextToken_286 : decode (hr_cd 169) 286 = .ok (.ldc2_w 176, 3) := by decide +kernel
theorem dM_nextToken_289 : decode (hr_cd 169) 289 = .ok (.lcmp, 1) := by decide +kernel
theorem dM_nextToken_290 : decode (hr_cd 169) 290 = .ok (.ifCond .le 7, 3) := by decide +kernel
theorem dM_nextToken_293 : decode (hr_cd 169) 293 = .ok (.iconst 4, 1) := by decide +kernel
theorem dM_nextToken_294 : decode (hr_cd 169) 294 = .ok (.goto 4, 3) := by decide +kernel
theorem dM_nextToken_297 : decode (hr_cd 169) 297 = .ok (.iconst 2, 1) := by decide +kernel
theorem dM_nextToken_298 : decode (hr_cd 169) 298 = .ok (.putfield 161, 3) := by decide +kernel
theorem dM_nextToken_301 : decode (hr_cd 169) 301 = .ok (.goto 36, 3) := by decide +kernel
theorem dM_nextToken_304 : decode (hr_cd 169) 304 = .ok (.aload_n 0, 1) := by decide +kernel
theorem dM_nextToken_305 : decode (hr_cd 169) 305 = .ok (.aload_n 0, 1) := by decide +kernel
theorem dM_nextToken_306 : decode (hr_cd 169) 306 = .ok (.getfield 22, 3) := by decide +kernel
theorem dM_nextToken_309 : decode (hr_cd 169) 309 = .ok (.aload_n 0, 1) := by decide +kernel
theorem dM_nextToken_310 : decode (hr_cd 169) 310 = .ok (.getfield 154, 3) := by decide +kernel
theorem dM_nextToken_313 : decode (hr_cd 169) 313 = .ok (.iaload, 1) := by decide +kernel
theorem dM_nextToken_314 : decode (hr_cd 169) 314 = .ok (.bipush 59, 2) := by decide +kernel
theorem dM_nextToken_316 : decode (hr_cd 169) 316 = .ok (.if_icmp .ne 7, 3) := by decide +kernel
theorem dM_nextToken_319 : decode (hr_cd 169) 319 = .ok (.iconst 3, 1) := by decide +kernel
theorem dM_nextToken_320 : decode (hr_cd 169) 320 = .ok (.goto 4, 3) := by decide +kernel
theorem dM_nextToken_323 : decode (hr_cd 169) 323 = .ok (.iconst 4, 1) := by decide +kernel
theorem dM_nextToken_324 : decode (hr_cd 169) 324 = .ok (.putfield 161, 3) := by decide +kernel
theorem dM_nextToken_327 : decode (hr_cd 169) 327 = .ok (.aload_n 0, 1) := by decide +kernel
theorem dM_nextToken_328 : decode (hr_cd 169) 328 = .ok (.dup, 1) := by decide +kernel
theorem dM_nextToken_329 : decode (hr_cd 169) 329 = .ok (.getfield 151, 3) := by decide +kernel
theorem dM_nextToken_332 : decode (hr_cd 169) 332 = .ok (.iconst 1, 1) := by decide +kernel
theorem dM_nextToken_333 : decode (hr_cd 169) 333 = .ok (.iadd, 1) := by decide +kernel
theorem dM_nextToken_334 : decode (hr_cd 169) 334 = .ok (.putfield 151, 3) := by decide +kernel
theorem dM_nextToken_337 : decode (hr_cd 169) 337 = .ok (.return_, 1) := by decide +kernel
theorem dM_isLetter_0 : decode (hr_cd 170) 0 = .ok (.iload_n 0, 1) := by decide +kernel
theorem dM_isLetter_1 : decode (hr_cd 170) 1 = .ok (.bipush 97, 2) := by decide +kernel
theorem dM_isLetter_3 : decode (hr_cd 170) 3 = .ok (.bipush 122, 2) := by decide +kernel
theorem dM_isLetter_5 : decode (hr_cd 170) 5 = .ok (.invokestatic 49, 3) := by decide +kernel
theorem dM_isLetter_8 : decode (hr_cd 170) 8 = .ok (.ireturn, 1) := by decide +kernel
theorem dM_isDigit_0 : decode (hr_cd 171) 0 = .ok (.iload_n 0, 1) := by decide +kernel
theorem dM_isDigit_1 : decode (hr_cd 171) 1 = .ok (.bipush 48, 2) := by decide +kernel
theorem dM_isDigit_3 : decode (hr_cd 171) 3 = .ok (.bipush 57, 2) := by decide +kernel
theorem dM_isDigit_5 : decode (hr_cd 171) 5 = .ok (.invokestatic 49, 3) := by decide +kernel
theorem dM_isDigit_8 : decode (hr_cd 171) 8 = .ok (.ireturn, 1) := by decide +kernel
theorem dM_readsItem_0 : decode (hr_cd 172) 0 = .ok (.aload_n 0, 1) := by decide +kernel
theorem dM_readsItem_1 : decode (hr_cd 172) 1 = .ok (.aload_n 0, 1) := by decide +kernel
theorem dM_readsItem_2 : decode (hr_cd 172) 2 = .ok (.getfield 25, 3) := by decide +kernel
theorem dM_readsItem_5 : decode (hr_cd 172) 5 = .ok (.invokevirtual 185, 3) := by decide +kernel
theorem dM_readsItem_8 : decode (hr_cd 172) 8 = .ok (.istore_n 1, 1) := by decide +kernel
theorem dM_readsItem_9 : decode (hr_cd 172) 9 = .ok (.iload_n 1, 1) := by decide +kernel
theorem dM_readsItem_10 : decode (hr_cd 172) 10 = .ok (.ifCond .lt 11, 3) := by decide +kernel
theorem dM_readsItem_13 : decode (hr_cd 172) 13 = .ok (.aload_n 0, 1) := by decide +kernel
theorem dM_readsItem_14 : decode (hr_cd 172) 14 = .ok (.iload_n 1, 1) := by decide +kernel
theorem dM_readsItem_15 : decode (hr_cd 172) 15 = .ok (.invokevirtual 192, 3) := by decide +kernel
theorem dM_readsItem_18 : decode (hr_cd 172) 18 = .ok (.goto 26, 3) := by decide +kernel
theorem dM_readsItem_21 : decode (hr_cd 172) 21 = .ok (.aload_n 0, 1) := by decide +kernel
theorem dM_readsItem_22 : decode (hr_cd 172) 22 = .ok (.aload_n 0, 1) := by decide +kernel
theorem dM_readsItem_23 : decode (hr_cd 172) 23 = .ok (.getfield 32, 3) := by decide +kernel
theorem dM_readsItem_26 : decode (hr_cd 172) 26 = .ok (.invokevirtual 185, 3) := by decide +kernel
theorem dM_readsItem_29 : decode (hr_cd 172) 29 = .ok (.ifCond .ne 14, 3) := by decide +kernel
theorem dM_readsItem_32 : decode (hr_cd 172) 32 = .ok (.aload_n 0, 1) := by decide +kernel
theorem dM_readsItem_33 : decode (hr_cd 172) 33 = .ok (.invokevirtual 195, 3) := by decide +kernel
theorem dM_readsItem_36 : decode (hr_cd 172) 36 = .ok (.ifCond .eq 7, 3) := by decide +kernel
theorem dM_readsItem_39 : decode (hr_cd 172) 39 = .ok (.iconst 1, 1) := by decide +kernel
theorem dM_readsItem_40 : decode (hr_cd 172) 40 = .ok (.goto 4, 3) := by decide +kernel
theorem dM_readsItem_43 : decode (hr_cd 172) 43 = .ok (.iconst 0, 1) := by decide +kernel
theorem dM_readsItem_44 : decode (hr_cd 172) 44 = .ok (.ireturn, 1) := by decide +kernel
theorem dM_wordOf_0 : decode (hr_cd 173) 0 = .ok (.iconst (-1), 1) := by decide +kernel
theorem dM_wordOf_1 : decode (hr_cd 173) 1 = .ok (.istore_n 2, 1) := by decide +kernel
theorem dM_wordOf_2 : decode (hr_cd 173) 2 = .ok (.iconst 0, 1) := by decide +kernel
theorem dM_wordOf_3 : decode (hr_cd 173) 3 = .ok (.istore_n 3, 1) := by decide +kernel
theorem dM_wordOf_4 : decode (hr_cd 173) 4 = .ok (.iload_n 3, 1) := by decide +kernel
theorem dM_wordOf_5 : decode (hr_cd 173) 5 = .ok (.aload_n 1, 1) := by decide +kernel
theorem dM_wordOf_6 : decode (hr_cd 173) 6 = .ok (.arraylength, 1) := by decide +kernel
theorem dM_wordOf_7 : decode (hr_cd 173) 7 = .ok (.bipush 8, 2) := by decide +kernel
theorem dM_wordOf_9 : decode (hr_cd 173) 9 = .ok (.idiv, 1) := by decide +kernel
theorem dM_wordOf_10 : decode (hr_cd 173) 10 = .ok (.if_icmp .ge 94, 3) := by decide +kernel
theorem dM_wordOf_13 : decode (hr_cd 173) 13 = .ok (.aload_n 0, 1) := by decide +kernel
theorem dM_wordOf_14 : decode (hr_cd 173) 14 = .ok (.getfield 161, 3) := by decide +kernel
theorem dM_wordOf_17 : decode (hr_cd 173) 17 = .ok (.iconst 1, 1) := by decide +kernel
theorem dM_wordOf_18 : decode (hr_cd 173) 18 = .ok (.if_icmp .ne 86, 3) := by decide +kernel
theorem dM_wordOf_21 : decode (hr_cd 173) 21 = .ok (.lconst 0, 1) := by decide +kernel
theorem dM_wordOf_22 : decode (hr_cd 173) 22 = .ok (.lstore 4, 2) := by decide +kernel
theorem dM_wordOf_24 : decode (hr_cd 173) 24 = .ok (.iconst 0, 1) := by decide +kernel
theorem dM_wordOf_25 : decode (hr_cd 173) 25 = .ok (.istore 6, 2) := by decide +kernel
theorem dM_wordOf_27 : decode (hr_cd 173) 27 = .ok (.iload 6, 2) := by decide +kernel
theorem dM_wordOf_29 : decode (hr_cd 173) 29 = .ok (.bipush 8, 2) := by decide +kernel
theorem dM_wordOf_31 : decode (hr_cd 173) 31 = .ok (.if_icmp .ge 51, 3) := by decide +kernel
theorem dM_wordOf_34 : decode (hr_cd 173) 34 = .ok (.aload_n 1, 1) := by decide +kernel
theorem dM_wordOf_35 : decode (hr_cd 173) 35 = .ok (.bipush 8, 2) := by decide +kernel
theorem dM_wordOf_37 : decode (hr_cd 173) 37 = .ok (.iload_n 3, 1) := by decide +kernel
theorem dM_wordOf_38 : decode (hr_cd 173) 38 = .ok (.imul, 1) := by decide +kernel
theorem dM_wordOf_39 : decode (hr_cd 173) 39 = .ok (.iload 6, 2) := by decide +kernel
theorem dM_wordOf_41 : decode (hr_cd 173) 41 = .ok (.iadd, 1) := by decide +kernel
theorem dM_wordOf_42 : decode (hr_cd 173) 42 = .ok (.caload, 1) := by decide +kernel
theorem dM_wordOf_43 : decode (hr_cd 173) 43 = .ok (.bipush 32, 2) := by decide +kernel
theorem dM_wordOf_45 : decode (hr_cd 173) 45 = .ok (.if_icmp .ne 8, 3) := by decide +kernel
theorem dM_wordOf_48 : decode (hr_cd 173) 48 = .ok (.lload 4, 2) := by decide +kernel
theorem dM_wordOf_50 : decode (hr_cd 173) 50 = .ok (.goto 24, 3) := by decide +kernel
theorem dM_wordOf_53 : decode (hr_cd 173) 53 = .ok (.lload 4, 2) := by decide +kernel
theorem dM_wordOf_55 : decode (hr_cd 173) 55 = .ok (.ldc2_w 169, 3) := by decide +kernel
theorem dM_wordOf_58 : decode (hr_cd 173) 58 = .ok (.lmul, 1) := by decide +kernel
theorem dM_wordOf_59 : decode (hr_cd 173) 59 = .ok (.aload_n 1, 1) := by decide +kernel
theorem dM_wordOf_60 : decode (hr_cd 173) 60 = .ok (.bipush 8, 2) := by decide +kernel
theorem dM_wordOf_62 : decode (hr_cd 173) 62 = .ok (.iload_n 3, 1) := by decide +kernel
theorem dM_wordOf_63 : decode (hr_cd 173) 63 = .ok (.imul, 1) := by decide +kernel
theorem dM_wordOf_64 : decode (hr_cd 173) 64 = .ok (.iload 6, 2) := by decide +kernel
theorem dM_wordOf_66 : decode (hr_cd 173) 66 = .ok (.iadd, 1) := by decide +kernel
theorem dM_wordOf_67 : decode (hr_cd 173) 67 = .ok (.caload, 1) := by decide +kernel
theorem dM_wordOf_68 : decode (hr_cd 173) 68 = .ok (.i2l, 1) := by decide +kernel
theorem dM_wordOf_69 : decode (hr_cd 173) 69 = .ok (.ladd, 1) := by decide +kernel
theorem dM_wordOf_70 : decode (hr_cd 173) 70 = .ok (.ldc2_w 171, 3) := by decide +kernel
theorem dM_wordOf_73 : decode (hr_cd 173) 73 = .ok (.lsub, 1) := by decide +kernel
theorem dM_wordOf_74 : decode (hr_cd 173) 74 = .ok (.lstore 4, 2) := by decide +kernel
theorem dM_wordOf_76 : decode (hr_cd 173) 76 = .ok (.iinc 6 1, 3) := by decide +kernel
theorem dM_wordOf_79 : decode (hr_cd 173) 79 = .ok (.goto (-52), 3) := by decide +kernel
theorem dM_wordOf_82 : decode (hr_cd 173) 82 = .ok (.lload 4, 2) := by decide +kernel
theorem dM_wordOf_84 : decode (hr_cd 173) 84 = .ok (.aload_n 0, 1) := by decide +kernel
theorem dM_wordOf_85 : decode (hr_cd 173) 85 = .ok (.getfield 157, 3) := by decide +kernel
theorem dM_wordOf_88 : decode (hr_cd 173) 88 = .ok (.lcmp, 1) := by decide +kernel
theorem dM_wordOf_89 : decode (hr_cd 173) 89 = .ok (.ifCond .ne 7, 3) := by decide +kernel
theorem dM_wordOf_92 : decode (hr_cd 173) 92 = .ok (.iload_n 3, 1) := by decide +kernel
theorem dM_wordOf_93 : decode (hr_cd 173) 93 = .ok (.goto 4, 3) := by decide +kernel
theorem dM_wordOf_96 : decode (hr_cd 173) 96 = .ok (.iload_n 2, 1) := by decide +kernel
theorem dM_wordOf_97 : decode (hr_cd 173) 97 = .ok (.istore_n 2, 1) := by decide +kernel
theorem dM_wordOf_98 : decode (hr_cd 173) 98 = .ok (.iinc 3 1, 3) := by decide +kernel
theorem dM_wordOf_101 : decode (hr_cd 173) 101 = .ok (.goto (-97), 3) := by decide +kernel
theorem dM_wordOf_104 : decode (hr_cd 173) 104 = .ok (.iload_n 2, 1) := by decide +kernel
theorem dM_wordOf_105 : decode (hr_cd 173) 105 = .ok (.ireturn, 1) := by decide +kernel
theorem dM_readsRock_0 : decode (hr_cd 174) 0 = .ok (.aload_n 0, 1) := by decide +kernel
theorem dM_readsRock_1 : decode (hr_cd 174) 1 = .ok (.getfield 9, 3) := by decide +kernel
theorem dM_readsRock_4 : decode (hr_cd 174) 4 = .ok (.iconst 5, 1) := by decide +kernel
theorem dM_readsRock_5 : decode (hr_cd 174) 5 = .ok (.iaload, 1) := by decide +kernel
theorem dM_readsRock_6 : decode (hr_cd 174) 6 = .ok (.bipush 8, 2) := by decide +kernel
theorem dM_readsRock_8 : decode (hr_cd 174) 8 = .ok (.if_icmp .ne 5, 3) := by decide +kernel
theorem dM_readsRock_11 : decode (hr_cd 174) 11 = .ok (.iconst 0, 1) := by decide +kernel
theorem dM_readsRock_12 : decode (hr_cd 174) 12 = .ok (.ireturn, 1) := by decide +kernel
theorem dM_readsRock_13 : decode (hr_cd 174) 13 = .ok (.aload_n 0, 1) := by decide +kernel
theorem dM_readsRock_14 : decode (hr_cd 174) 14 = .ok (.invokevirtual 182, 3) := by decide +kernel
theorem dM_readsRock_17 : decode (hr_cd 174) 17 = .ok (.aload_n 0, 1) := by decide +kernel
theorem dM_readsRock_18 : decode (hr_cd 174) 18 = .ok (.aload_n 0, 1) := by decide +kernel
theorem dM_readsRock_19 : decode (hr_cd 174) 19 = .ok (.getfield 29, 3) := by decide +kernel
theorem dM_readsRock_22 : decode (hr_cd 174) 22 = .ok (.invokevirtual 185, 3) := by decide +kernel
theorem dM_readsRock_25 : decode (hr_cd 174) 25 = .ok (.ifCond .eq 5, 3) := by decide +kernel
theorem dM_readsRock_28 : decode (hr_cd 174) 28 = .ok (.iconst 0, 1) := by decide +kernel
theorem dM_readsRock_29 : decode (hr_cd 174) 29 = .ok (.ireturn, 1) := by decide +kernel
theorem dM_readsRock_30 : decode (hr_cd 174) 30 = .ok (.aload_n 0, 1) := by decide +kernel
theorem dM_readsRock_31 : decode (hr_cd 174) 31 = .ok (.invokevirtual 182, 3) := by decide +kernel
theorem dM_readsRock_34 : decode (hr_cd 174) 34 = .ok (.aload_n 0, 1) := by decide +kernel
theorem dM_readsRock_35 : decode (hr_cd 174) 35 = .ok (.iconst 0, 1) := by decide +kernel
theorem dM_readsRock_36 : decode (hr_cd 174) 36 = .ok (.bipush 63, 2) := by decide +kernel
theorem dM_readsRock_38 : decode (hr_cd 174) 38 = .ok (.invokevirtual 189, 3) := by decide +kernel
theorem dM_readsRock_41 : decode (hr_cd 174) 41 = .ok (.istore_n 2, 1) := by decide +kernel
theorem dM_readsRock_42 : decode (hr_cd 174) 42 = .ok (.iload_n 2, 1) := by decide +kernel
theorem dM_readsRock_43 : decode (hr_cd 174) 43 = .ok (.ifCond .ge 5, 3) := by decide +kernel
theorem dM_readsRock_46 : decode (hr_cd 174) 46 = .ok (.iconst 0, 1) := by decide +kernel
theorem dM_readsRock_47 : decode (hr_cd 174) 47 = .ok (.ireturn, 1) := by decide +kernel
theorem dM_readsRock_48 : decode (hr_cd 174) 48 = .ok (.aload_n 0, 1) := by decide +kernel
theorem dM_readsRock_49 : decode (hr_cd 174) 49 = .ok (.getfield 9, 3) := by decide +kernel
theorem dM_readsRock_52 : decode (hr_cd 174) 52 = .ok (.iconst 5, 1) := by decide +kernel
theorem dM_readsRock_53 : decode (hr_cd 174) 53 = .ok (.iaload, 1) := by decide +kernel
theorem dM_readsRock_54 : decode (hr_cd 174) 54 = .ok (.istore_n 3, 1) := by decide +kernel
theorem dM_readsRock_55 : decode (hr_cd 174) 55 = .ok (.aload_n 0, 1) := by decide +kernel
theorem dM_readsRock_56 : decode (hr_cd 174) 56 = .ok (.iload_n 1, 1) := by decide +kernel
theorem dM_readsRock_57 : decode (hr_cd 174) 57 = .ok (.iload_n 2, 1) := by decide +kernel
theorem dM_readsRock_58 : decode (hr_cd 174) 58 = .ok (.invokevirtual 110, 3) := by decide +kernel
theorem dM_readsRock_61 : decode (hr_cd 174) 61 = .ok (.iconst 1, 1) := by decide +kernel
theorem dM_readsRock_62 : decode (hr_cd 174) 62 = .ok (.istore 4, 2) := by decide +kernel
theorem dM_readsRock_64 : decode (hr_cd 174) 64 = .ok (.iload 4, 2) := by decide +kernel
theorem dM_readsRock_66 : decode (hr_cd 174) 66 = .ok (.iconst 4, 1) := by decide +kernel
theorem dM_readsRock_67 : decode (hr_cd 174) 67 = .ok (.if_icmp .ge 74, 3) := by decide +kernel
theorem dM_readsRock_70 : decode (hr_cd 174) 70 = .ok (.aload_n 0, 1) := by decide +kernel
theorem dM_readsRock_71 : decode (hr_cd 174) 71 = .ok (.aload_n 0, 1) := by decide +kernel
theorem dM_readsRock_72 : decode (hr_cd 174) 72 = .ok (.getfield 29, 3) := by decide +kernel
theorem dM_readsRock_75 : decode (hr_cd 174) 75 = .ok (.invokevirtual 185, 3) := by decide +kernel
theorem dM_readsRock_78 : decode (hr_cd 174) 78 = .ok (.iload 4, 2) := by decide +kernel
theorem dM_readsRock_80 : decode (hr_cd 174) 80 = .ok (.if_icmp .ne 55, 3) := by decide +kernel
theorem dM_readsRock_83 : decode (hr_cd 174) 83 = .ok (.aload_n 0, 1) := by decide +kernel
theorem dM_readsRock_84 : decode (hr_cd 174) 84 = .ok (.invokevirtual 182, 3) := by decide +kernel
theorem dM_readsRock_87 : decode (hr_cd 174) 87 = .ok (.iload 4, 2) := by decide +kernel
theorem dM_readsRock_89 : decode (hr_cd 174) 89 = .ok (.iconst 3, 1) := by decide +kernel
theorem dM_readsRock_90 : decode (hr_cd 174) 90 = .ok (.if_icmp .ne 7, 3) := by decide +kernel
theorem dM_readsRock_93 : decode (hr_cd 174) 93 = .ok (.iconst 1, 1) := by decide +kernel
theorem dM_readsRock_94 : decode (hr_cd 174) 94 = .ok (.goto 21, 3) := by decide +kernel
theorem dM_readsRock_97 : decode (hr_cd 174) 97 = .ok (.aload_n 0, 1) := by decide +kernel
theorem dM_readsRock_98 : decode (hr_cd 174) 98 = .ok (.iconst 0, 1) := by decide +kernel
theorem dM_readsRock_99 : decode (hr_cd 174) 99 = .ok (.iload 4, 2) := by decide +kernel
theorem dM_readsRock_101 : decode (hr_cd 174) 101 = .ok (.iconst 1, 1) := by decide +kernel
theorem dM_readsRock_102 : decode (hr_cd 174) 102 = .ok (.if_icmp .ne 8, 3) := by decide +kernel
theorem dM_readsRock_105 : decode (hr_cd 174) 105 = .ok (.bipush 99, 2) := by decide +kernel
theorem dM_readsRock_107 : decode (hr_cd 174) 107 = .ok (.goto 5, 3) := by decide +kernel
theorem dM_readsRock_110 : decode (hr_cd 174) 110 = .ok (.bipush 9, 2) := by decide +kernel
theorem dM_readsRock_112 : decode (hr_cd 174) 112 = .ok (.invokevirtual 189, 3) := by decide +kernel
theorem dM_readsRock_115 : decode (hr_cd 174) 115 = .ok (.istore 5, 2) := by decide +kernel
theorem dM_readsRock_117 : decode (hr_cd 174) 117 = .ok (.iload 5, 2) := by decide +kernel
theorem dM_readsRock_119 : decode (hr_cd 174) 119 = .ok (.ifCond .ge 5, 3) := by decide +kernel
theorem dM_readsRock_122 : decode (hr_cd 174) 122 = .ok (.iconst 0, 1) := by decide +kernel
theorem dM_readsRock_123 : decode (hr_cd 174) 123 = .ok (.ireturn, 1) := by decide +kernel
theorem dM_readsRock_124 : decode (hr_cd 174) 124 = .ok (.aload_n 0, 1) := by decide +kernel
theorem dM_readsRock_125 : decode (hr_cd 174) 125 = .ok (.iload_n 3, 1) := by decide +kernel
theorem dM_readsRock_126 : decode (hr_cd 174) 126 = .ok (.iconst 1, 1) := by decide +kernel
theorem dM_readsRock_127 : decode (hr_cd 174) 127 = .ok (.iload 4, 2) := by decide +kernel
theorem dM_readsRock_129 : decode (hr_cd 174) 129 = .ok (.iadd, 1) := by decide +kernel
theorem dM_readsRock_130 : decode (hr_cd 174) 130 = .ok (.iload 5, 2) := by decide +kernel
theorem dM_readsRock_132 : decode (hr_cd 174) 132 = .ok (.invokevirtual 84, 3) := by decide +kernel
theorem dM_readsRock_135 : decode (hr_cd 174) 135 = .ok (.iinc 4 1, 3) := by decide +kernel
theorem dM_readsRock_138 : decode (hr_cd 174) 138 = .ok (.goto (-74), 3) := by decide +kernel
theorem dM_readsRock_141 : decode (hr_cd 174) 141 = .ok (.iconst 1, 1) := by decide +kernel
theorem dM_readsRock_142 : decode (hr_cd 174) 142 = .ok (.ireturn, 1) := by decide +kernel
theorem dM_takesNumber_0 : decode (hr_cd 175) 0 = .ok (.aload_n 0, 1) := by decide +kernel
theorem dM_takesNumber_1 : decode (hr_cd 175) 1 = .ok (.getfield 161, 3) := by decide +kernel
theorem dM_takesNumber_4 : decode (hr_cd 175) 4 = .ok (.iconst 2, 1) := by decide +kernel
theorem dM_takesNumber_5 : decode (hr_cd 175) 5 = .ok (.if_icmp .ne 24, 3) := by decide +kernel
theorem dM_takesNumber_8 : decode (hr_cd 175) 8 = .ok (.aload_n 0, 1) := by decide +kernel
theorem dM_takesNumber_9 : decode (hr_cd 175) 9 = .ok (.getfield 157, 3) := by decide +kernel
theorem dM_takesNumber_12 : decode (hr_cd 175) 12 = .ok (.l2i, 1) := by decide +kernel
theorem dM_takesNumber_13 : decode (hr_cd 175) 13 = .ok (.iload_n 1, 1) := by decide +kernel
theorem dM_takesNumber_14 : decode (hr_cd 175) 14 = .ok (.iload_n 2, 1) := by decide +kernel
theorem dM_takesNumber_15 : decode (hr_cd 175) 15 = .ok (.invokestatic 49, 3) := by decide +kernel
theorem dM_takesNumber_18 : decode (hr_cd 175) 18 = .ok (.ifCond .eq 11, 3) := by decide +kernel
theorem dM_takesNumber_21 : decode (hr_cd 175) 21 = .ok (.aload_n 0, 1) := by decide +kernel
theorem dM_takesNumber_22 : decode (hr_cd 175) 22 = .ok (.getfield 157, 3) := by decide +kernel
theorem dM_takesNumber_25 : decode (hr_cd 175) 25 = .ok (.l2i, 1) := by decide +kernel
theorem dM_takesNumber_26 : decode (hr_cd 175) 26 = .ok (.goto 4, 3) := by decide +kernel
theorem dM_takesNumber_29 : decode (hr_cd 175) 29 = .ok (.iconst (-1), 1) := by decide +kernel
theorem dM_takesNumber_30 : decode (hr_cd 175) 30 = .ok (.istore_n 3, 1) := by decide +kernel
theorem dM_takesNumber_31 : decode (hr_cd 175) 31 = .ok (.iload_n 3, 1) := by decide +kernel
theorem dM_takesNumber_32 : decode (hr_cd 175) 32 = .ok (.ifCond .lt 7, 3) := by decide +kernel
theorem dM_takesNumber_35 : decode (hr_cd 175) 35 = .ok (.aload_n 0, 1) := by decide +kernel
theorem dM_takesNumber_36 : decode (hr_cd 175) 36 = .ok (.invokevirtual 182, 3) := by decide +kernel
theorem dM_takesNumber_39 : decode (hr_cd 175) 39 = .ok (.iload_n 3, 1) := by decide +kernel
theorem dM_takesNumber_40 : decode (hr_cd 175) 40 = .ok (.ireturn, 1) := by decide +kernel
theorem dM_readsShip_0 : decode (hr_cd 176) 0 = .ok (.aload_n 0, 1) := by decide +kernel
theorem dM_readsShip_1 : decode (hr_cd 176) 1 = .ok (.invokevirtual 182, 3) := by decide +kernel
theorem dM_readsShip_4 : decode (hr_cd 176) 4 = .ok (.aload_n 0, 1) := by decide +kernel
theorem dM_readsShip_5 : decode (hr_cd 176) 5 = .ok (.iconst 0, 1) := by decide +kernel
theorem dM_readsShip_6 : decode (hr_cd 176) 6 = .ok (.bipush 63, 2) := by decide +kernel
theorem dM_readsShip_8 : decode (hr_cd 176) 8 = .ok (.invokevirtual 189, 3) := by decide +kernel
theorem dM_readsShip_11 : decode (hr_cd 176) 11 = .ok (.istore_n 1, 1) := by decide +kernel
theorem dM_readsShip_12 : decode (hr_cd 176) 12 = .ok (.iload_n 1, 1) := by decide +kernel
theorem dM_readsShip_13 : decode (hr_cd 176) 13 = .ok (.ifCond .ge 5, 3) := by decide +kernel
theorem dM_readsShip_16 : decode (hr_cd 176) 16 = .ok (.iconst 0, 1) := by decide +kernel
theorem dM_readsShip_17 : decode (hr_cd 176) 17 = .ok (.ireturn, 1) := by decide +kernel
theorem dM_readsShip_18 : decode (hr_cd 176) 18 = .ok (.aload_n 0, 1) := by decide +kernel
theorem dM_readsShip_19 : decode (hr_cd 176) 19 = .ok (.iload_n 1, 1) := by decide +kernel
theorem dM_readsShip_20 : decode (hr_cd 176) 20 = .ok (.invokevirtual 101, 3) := by decide +kernel
theorem dM_readsShip_23 : decode (hr_cd 176) 23 = .ok (.aload_n 0, 1) := by decide +kernel
theorem dM_readsShip_24 : decode (hr_cd 176) 24 = .ok (.aload_n 0, 1) := by decide +kernel
theorem dM_readsShip_25 : decode (hr_cd 176) 25 = .ok (.getfield 32, 3) := by decide +kernel
theorem dM_readsShip_28 : decode (hr_cd 176) 28 = .ok (.invokevirtual 185, 3) := by decide +kernel
theorem dM_readsShip_31 : decode (hr_cd 176) 31 = .ok (.iconst 1, 1) := by decide +kernel
theorem dM_readsShip_32 : decode (hr_cd 176) 32 = .ok (.if_icmp .ne 28, 3) := by decide +kernel
theorem dM_readsShip_35 : decode (hr_cd 176) 35 = .ok (.aload_n 0, 1) := by decide +kernel
theorem dM_readsShip_36 : decode (hr_cd 176) 36 = .ok (.invokevirtual 182, 3) := by decide +kernel
theorem dM_readsShip_39 : decode (hr_cd 176) 39 = .ok (.aload_n 0, 1) := by decide +kernel
theorem dM_readsShip_40 : decode (hr_cd 176) 40 = .ok (.iconst 0, 1) := by decide +kernel
theorem dM_readsShip_41 : decode (hr_cd 176) 41 = .ok (.bipush 9, 2) := by decide +kernel
theorem dM_readsShip_43 : decode (hr_cd 176) 43 = .ok (.invokevirtual 189, 3) := by decide +kernel
theorem dM_readsShip_46 : decode (hr_cd 176) 46 = .ok (.istore_n 2, 1) := by decide +kernel
theorem dM_readsShip_47 : decode (hr_cd 176) 47 = .ok (.iload_n 2, 1) := by decide +kernel
theorem dM_readsShip_48 : decode (hr_cd 176) 48 = .ok (.ifCond .ge 5, 3) := by decide +kernel
theorem dM_readsShip_51 : decode (hr_cd 176) 51 = .ok (.iconst 0, 1) := by decide +kernel
theorem dM_readsShip_52 : decode (hr_cd 176) 52 = .ok (.ireturn, 1) := by decide +kernel
theorem dM_readsShip_53 : decode (hr_cd 176) 53 = .ok (.aload_n 0, 1) := by decide +kernel
theorem dM_readsShip_54 : decode (hr_cd 176) 54 = .ok (.getfield 9, 3) := by decide +kernel
theorem dM_readsShip_57 : decode (hr_cd 176) 57 = .ok (.iconst 2, 1) := by decide +kernel
theorem dM_readsShip_58 : decode (hr_cd 176) 58 = .ok (.iload_n 2, 1) := by decide +kernel
theorem dM_readsShip_59 : decode (hr_cd 176) 59 = .ok (.iastore, 1) := by decide +kernel
theorem dM_readsShip_60 : decode (hr_cd 176) 60 = .ok (.aload_n 0, 1) := by decide +kernel
theorem dM_readsShip_61 : decode (hr_cd 176) 61 = .ok (.aload_n 0, 1) := by decide +kernel
theorem dM_readsShip_62 : decode (hr_cd 176) 62 = .ok (.getfield 32, 3) := by decide +kernel
theorem dM_readsShip_65 : decode (hr_cd 176) 65 = .ok (.invokevirtual 185, 3) := by decide +kernel
theorem dM_readsShip_68 : decode (hr_cd 176) 68 = .ok (.iconst 2, 1) := by decide +kernel
theorem dM_readsShip_69 : decode (hr_cd 176) 69 = .ok (.if_icmp .ne 7, 3) := by decide +kernel
theorem dM_readsShip_72 : decode (hr_cd 176) 72 = .ok (.iconst 1, 1) := by decide +kernel
theorem dM_readsShip_73 : decode (hr_cd 176) 73 = .ok (.goto 4, 3) := by decide +kernel
theorem dM_readsShip_76 : decode (hr_cd 176) 76 = .ok (.iconst 0, 1) := by decide +kernel
theorem dM_readsShip_77 : decode (hr_cd 176) 77 = .ok (.istore_n 2, 1) := by decide +kernel
theorem dM_readsShip_78 : decode (hr_cd 176) 78 = .ok (.aload_n 0, 1) := by decide +kernel
theorem dM_readsShip_79 : decode (hr_cd 176) 79 = .ok (.getfield 9, 3) := by decide +kernel
theorem dM_readsShip_82 : decode (hr_cd 176) 82 = .ok (.iconst 3, 1) := by decide +kernel
theorem dM_readsShip_83 : decode (hr_cd 176) 83 = .ok (.iload_n 2, 1) := by decide +kernel
theorem dM_readsShip_84 : decode (hr_cd 176) 84 = .ok (.ifCond .eq 7, 3) := by decide +kernel
theorem dM_readsShip_87 : decode (hr_cd 176) 87 = .ok (.iconst 1, 1) := by decide +kernel
theorem dM_readsShip_88 : decode (hr_cd 176) 88 = .ok (.goto 4, 3) := by decide +kernel
theorem dM_readsShip_91 : decode (hr_cd 176) 91 = .ok (.iconst 0, 1) := by decide +kernel
theorem dM_readsShip_92 : decode (hr_cd 176) 92 = .ok (.iastore, 1) := by decide +kernel
theorem dM_readsShip_93 : decode (hr_cd 176) 93 = .ok (.iload_n 2, 1) := by decide +kernel
theorem dM_readsShip_94 : decode (hr_cd 176) 94 = .ok (.ifCond .eq 7, 3) := by decide +kernel
theorem dM_readsShip_97 : decode (hr_cd 176) 97 = .ok (.aload_n 0, 1) := by decide +kernel
theorem dM_readsShip_98 : decode (hr_cd 176) 98 = .ok (.invokevirtual 182, 3) := by decide +kernel
theorem dM_readsShip_101 : decode (hr_cd 176) 101 = .ok (.iconst 1, 1) := by decide +kernel
theorem dM_readsShip_102 : decode (hr_cd 176) 102 = .ok (.ireturn, 1) := by decide +kernel
theorem dM_sheet_0 : decode (hr_cd 177) 0 = .ok (.iload_n 1, 1) := by decide +kernel
theorem dM_sheet_1 : decode (hr_cd 177) 1 = .ok (.invokestatic 202, 3) := by decide +kernel
theorem dM_sheet_4 : decode (hr_cd 177) 4 = .ok (.ifCond .eq 25, 3) := by decide +kernel
theorem dM_sheet_7 : decode (hr_cd 177) 7 = .ok (.iload_n 2, 1) := by decide +kernel
theorem dM_sheet_8 : decode (hr_cd 177) 8 = .ok (.ifCond .eq 27, 3) := by decide +kernel
theorem dM_sheet_11 : decode (hr_cd 177) 11 = .ok (.iload_n 2, 1) := by decide +kernel
theorem dM_sheet_12 : decode (hr_cd 177) 12 = .ok (.bipush 8, 2) := by decide +kernel
theorem dM_sheet_14 : decode (hr_cd 177) 14 = .ok (.if_icmp .eq 21, 3) := by decide +kernel
theorem dM_sheet_17 : decode (hr_cd 177) 17 = .ok (.iload_n 2, 1) := by decide +kernel
theorem dM_sheet_18 : decode (hr_cd 177) 18 = .ok (.bipush 16, 2) := by decide +kernel
theorem dM_sheet_20 : decode (hr_cd 177) 20 = .ok (.if_icmp .eq 15, 3) := by decide +kernel
theorem dM_sheet_23 : decode (hr_cd 177) 23 = .ok (.iload_n 2, 1) := by decide +kernel
theorem dM_sheet_24 : decode (hr_cd 177) 24 = .ok (.bipush 64, 2) := by decide +kernel
theorem dM_sheet_26 : decode (hr_cd 177) 26 = .ok (.if_icmp .eq 9, 3) := by decide +kernel
theorem dM_sheet_29 : decode (hr_cd 177) 29 = .ok (.aload_n 0, 1) := by decide +kernel
theorem dM_sheet_30 : decode (hr_cd 177) 30 = .ok (.iconst 0, 1) := by decide +kernel
theorem dM_sheet_31 : decode (hr_cd 177) 31 = .ok (.invokevirtual 98, 3) := by decide +kernel
theorem dM_sheet_34 : decode (hr_cd 177) 34 = .ok (.ireturn, 1) := by decide +kernel
theorem dM_sheet_35 : decode (hr_cd 177) 35 = .ok (.iload_n 3, 1) := by decide +kernel
theorem dM_sheet_36 : decode (hr_cd 177) 36 = .ok (.ifCond .ge 10, 3) := by decide +kernel
theorem dM_sheet_39 : decode (hr_cd 177) 39 = .ok (.aload_n 0, 1) := by decide +kernel
theorem dM_sheet_40 : decode (hr_cd 177) 40 = .ok (.bipush 6, 2) := by decide +kernel
theorem dM_sheet_42 : decode (hr_cd 177) 42 = .ok (.invokevirtual 98, 3) := by decide +kernel
theorem dM_sheet_45 : decode (hr_cd 177) 45 = .ok (.ireturn, 1) := by decide +kernel
theorem dM_sheet_46 : decode (hr_cd 177) 46 = .ok (.iload_n 3, 1) := by decide +kernel
theorem dM_sheet_47 : decode (hr_cd 177) 47 = .ok (.bipush 40, 2) := by decide +kernel
theorem dM_sheet_49 : decode (hr_cd 177) 49 = .ok (.if_icmp .le 9, 3) := by decide +kernel
theorem dM_sheet_52 : decode (hr_cd 177) 52 = .ok (.aload_n 0, 1) := by decide +kernel
theorem dM_sheet_53 : decode (hr_cd 177) 53 = .ok (.iconst 0, 1) := by decide +kernel
theorem dM_sheet_54 : decode (hr_cd 177) 54 = .ok (.invokevirtual 98, 3) := by decide +kernel
theorem dM_sheet_57 : decode (hr_cd 177) 57 = .ok (.ireturn, 1) := by decide +kernel
theorem dM_sheet_58 : decode (hr_cd 177) 58 = .ok (.aload_n 0, 1) := by decide +kernel
theorem dM_sheet_59 : decode (hr_cd 177) 59 = .ok (.getfield 35, 3) := by decide +kernel
theorem dM_sheet_62 : decode (hr_cd 177) 62 = .ok (.iload_n 1, 1) := by decide +kernel
theorem dM_sheet_63 : decode (hr_cd 177) 63 = .ok (.iload_n 2, 1) := by decide +kernel
theorem dM_sheet_64 : decode (hr_cd 177) 64 = .ok (.iastore, 1) := by decide +kernel
theorem dM_sheet_65 : decode (hr_cd 177) 65 = .ok (.aload_n 0, 1) := by decide +kernel
theorem dM_sheet_66 : decode (hr_cd 177) 66 = .ok (.getfield 38, 3) := by decide +kernel
theorem dM_sheet_69 : decode (hr_cd 177) 69 = .ok (.iload_n 1, 1) := by decide +kernel
theorem dM_sheet_70 : decode (hr_cd 177) 70 = .ok (.iload_n 2, 1) := by decide +kernel
theorem dM_sheet_71 : decode (hr_cd 177) 71 = .ok (.ifCond .ne 7, 3) := by decide +kernel
theorem dM_sheet_74 : decode (hr_cd 177) 74 = .ok (.iconst 0, 1) := by decide +kernel
theorem dM_sheet_75 : decode (hr_cd 177) 75 = .ok (.goto 4, 3) := by decide +kernel
theorem dM_sheet_78 : decode (hr_cd 177) 78 = .ok (.iload_n 3, 1) := by decide +kernel
theorem dM_sheet_79 : decode (hr_cd 177) 79 = .ok (.iastore, 1) := by decide +kernel
theorem dM_sheet_80 : decode (hr_cd 177) 80 = .ok (.iconst 0, 1) := by decide +kernel
theorem dM_sheet_81 : decode (hr_cd 177) 81 = .ok (.istore 4, 2) := by decide +kernel
theorem dM_sheet_83 : decode (hr_cd 177) 83 = .ok (.iload 4, 2) := by decide +kernel
theorem dM_sheet_85 : decode (hr_cd 177) 85 = .ok (.bipush 40, 2) := by decide +kernel
theorem dM_sheet_87 : decode (hr_cd 177) 87 = .ok (.if_icmp .ge 22, 3) := by decide +kernel
theorem dM_sheet_90 : decode (hr_cd 177) 90 = .ok (.aload_n 0, 1) := by decide +kernel
theorem dM_sheet_91 : decode (hr_cd 177) 91 = .ok (.getfield 41, 3) := by decide +kernel
theorem dM_sheet_94 : decode (hr_cd 177) 94 = .ok (.bipush 40, 2) := by decide +kernel
theorem dM_sheet_96 : decode (hr_cd 177) 96 = .ok (.iload_n 1, 1) := by decide +kernel
theorem dM_sheet_97 : decode (hr_cd 177) 97 = .ok (.imul, 1) := by decide +kernel
theorem dM_sheet_98 : decode (hr_cd 177) 98 = .ok (.iload 4, 2) := by decide +kernel
theorem dM_sheet_100 : decode (hr_cd 177) 100 = .ok (.iadd, 1) := by decide +kernel
theorem dM_sheet_101 : decode (hr_cd 177) 101 = .ok (.lconst 0, 1) := by decide +kernel
theorem dM_sheet_102 : decode (hr_cd 177) 102 = .ok (.lastore, 1) := by decide +kernel
theorem dM_sheet_103 : decode (hr_cd 177) 103 = .ok (.iinc 4 1, 3) := by decide +kernel
theorem dM_sheet_106 : decode (hr_cd 177) 106 = .ok (.goto (-23), 3) := by decide +kernel
theorem dM_sheet_109 : decode (hr_cd 177) 109 = .ok (.aload_n 0, 1) := by decide +kernel
theorem dM_sheet_110 : decode (hr_cd 177) 110 = .ok (.getfield 38, 3) := by decide +kernel
theorem dM_sheet_113 : decode (hr_cd 177) 113 = .ok (.iload_n 1, 1) := by decide +kernel
theorem dM_sheet_114 : decode (hr_cd 177) 114 = .ok (.iaload, 1) := by decide +kernel
theorem dM_sheet_115 : decode (hr_cd 177) 115 = .ok (.ireturn, 1) := by decide +kernel
theorem dM_isSheet_0 : decode (hr_cd 178) 0 = .ok (.iload_n 0, 1) := by decide +kernel
theorem dM_isSheet_1 : decode (hr_cd 178) 1 = .ok (.iconst 0, 1) := by decide +kernel
theorem dM_isSheet_2 : decode (hr_cd 178) 2 = .ok (.iconst 3, 1) := by decide +kernel
theorem dM_isSheet_3 : decode (hr_cd 178) 3 = .ok (.invokestatic 49, 3) := by decide +kernel
theorem dM_isSheet_6 : decode (hr_cd 178) 6 = .ok (.ireturn, 1) := by decide +kernel
theorem dM_write_0 : decode (hr_cd 179) 0 = .ok (.aload_n 0, 1) := by decide +kernel
theorem dM_write_1 : decode (hr_cd 179) 1 = .ok (.iload_n 1, 1) := by decide +kernel
theorem dM_write_2 : decode (hr_cd 179) 2 = .ok (.invokevirtual 205, 3) := by decide +kernel
theorem dM_write_5 : decode (hr_cd 179) 5 = .ok (.istore 5, 2) := by decide +kernel
theorem dM_write_7 : decode (hr_cd 179) 7 = .ok (.iload 5, 2) := by decide +kernel
theorem dM_write_9 : decode (hr_cd 179) 9 = .ok (.ifCond .ge 22, 3) := by decide +kernel
theorem dM_write_12 : decode (hr_cd 179) 12 = .ok (.iload_n 2, 1) := by decide +kernel
theorem dM_write_13 : decode (hr_cd 179) 13 = .ok (.iconst 0, 1) := by decide +kernel
theorem dM_write_14 : decode (hr_cd 179) 14 = .ok (.aload_n 0, 1) := by decide +kernel
theorem dM_write_15 : decode (hr_cd 179) 15 = .ok (.getfield 38, 3) := by decide +kernel
theorem dM_write_18 : decode (hr_cd 179) 18 = .ok (.iload_n 1, 1) := by decide +kernel
theorem dM_write_19 : decode (hr_cd 179) 19 = .ok (.iaload, 1) := by decide +kernel
theorem dM_write_20 : decode (hr_cd 179) 20 = .ok (.iconst 1, 1) := by decide +kernel
theorem dM_write_21 : decode (hr_cd 179) 21 = .ok (.isub, 1) := by decide +kernel
theorem dM_write_22 : decode (hr_cd 179) 22 = .ok (.invokestatic 49, 3) := by decide +kernel
theorem dM_write_25 : decode (hr_cd 179) 25 = .ok (.ifCond .ne 6, 3) := by decide +kernel
theorem dM_write_28 : decode (hr_cd 179) 28 = .ok (.iconst 0, 1) := by decide +kernel
theorem dM_write_29 : decode (hr_cd 179) 29 = .ok (.istore 5, 2) := by decide +kernel
theorem dM_write_31 : decode (hr_cd 179) 31 = .ok (.iload 5, 2) := by decide +kernel
theorem dM_write_33 : decode (hr_cd 179) 33 = .ok (.ifCond .lt 11, 3) := by decide +kernel
theorem dM_write_36 : decode (hr_cd 179) 36 = .ok (.aload_n 0, 1) := by decide +kernel
theorem dM_write_37 : decode (hr_cd 179) 37 = .ok (.iload 5, 2) := by decide +kernel
theorem dM_write_39 : decode (hr_cd 179) 39 = .ok (.invokevirtual 98, 3) := by decide +kernel
theorem dM_write_42 : decode (hr_cd 179) 42 = .ok (.i2l, 1) := by decide +kernel
theorem dM_write_43 : decode (hr_cd 179) 43 = .ok (.lreturn, 1) := by decide +kernel
theorem dM_write_44 : decode (hr_cd 179) 44 = .ok (.aload_n 0, 1) := by decide +kernel
theorem dM_write_45 : decode (hr_cd 179) 45 = .ok (.iload_n 1, 1) := by decide +kernel
theorem dM_write_46 : decode (hr_cd 179) 46 = .ok (.iload_n 2, 1) := by decide +kernel
theorem dM_write_47 : decode (hr_cd 179) 47 = .ok (.invokevirtual 208, 3) := by decide +kernel
theorem dM_write_50 : decode (hr_cd 179) 50 = .ok (.lstore 6, 2) := by decide +kernel
theorem dM_write_52 : decode (hr_cd 179) 52 = .ok (.aload_n 0, 1) := by decide +kernel
theorem dM_write_53 : decode (hr_cd 179) 53 = .ok (.iload_n 1, 1) := by decide +kernel
theorem dM_write_54 : decode (hr_cd 179) 54 = .ok (.iload_n 2, 1) := by decide +kernel
theorem dM_write_55 : decode (hr_cd 179) 55 = .ok (.lload_n 3, 1) := by decide +kernel
theorem dM_write_56 : decode (hr_cd 179) 56 = .ok (.invokevirtual 212, 3) := by decide +kernel
theorem dM_write_59 : decode (hr_cd 179) 59 = .ok (.lload 6, 2) := by decide +kernel
theorem dM_write_61 : decode (hr_cd 179) 61 = .ok (.lreturn, 1) := by decide +kernel
theorem dM_wrongSheet_0 : decode (hr_cd 180) 0 = .ok (.iload_n 1, 1) := by decide +kernel
theorem dM_wrongSheet_1 : decode (hr_cd 180) 1 = .ok (.invokestatic 202, 3) := by decide +kernel
theorem dM_wrongSheet_4 : decode (hr_cd 180) 4 = .ok (.ifCond .ne 7, 3) := by decide +kernel
theorem dM_wrongSheet_7 : decode (hr_cd 180) 7 = .ok (.iconst 0, 1) := by decide +kernel
theorem dM_wrongSheet_8 : decode (hr_cd 180) 8 = .ok (.goto 17, 3) := by decide +kernel
theorem dM_wrongSheet_11 : decode (hr_cd 180) 11 = .ok (.aload_n 0, 1) := by decide +kernel
theorem dM_wrongSheet_12 : decode (hr_cd 180) 12 = .ok (.getfield 35, 3) := by decide +kernel
theorem dM_wrongSheet_15 : decode (hr_cd 180) 15 = .ok (.iload_n 1, 1) := by decide +kernel
theorem dM_wrongSheet_16 : decode (hr_cd 180) 16 = .ok (.iaload, 1) := by decide +kernel
theorem dM_wrongSheet_17 : decode (hr_cd 180) 17 = .ok (.ifCond .ne 7, 3) := by decide +kernel
theorem dM_wrongSheet_20 : decode (hr_cd 180) 20 = .ok (.iconst 5, 1) := by decide +kernel
theorem dM_wrongSheet_21 : decode (hr_cd 180) 21 = .ok (.goto 4, 3) := by decide +kernel
theorem dM_wrongSheet_24 : decode (hr_cd 180) 24 = .ok (.iconst (-1), 1) := by decide +kernel
theorem dM_wrongSheet_25 : decode (hr_cd 180) 25 = .ok (.ireturn, 1) := by decide +kernel
theorem dM_told_0 : decode (hr_cd 181) 0 = .ok (.aload_n 0, 1) := by decide +kernel
theorem dM_told_1 : decode (hr_cd 181) 1 = .ok (.getfield 41, 3) := by decide +kernel
theorem dM_told_4 : decode (hr_cd 181) 4 = .ok (.bipush 40, 2) := by decide +kernel
theorem dM_told_6 : decode (hr_cd 181) 6 = .ok (.iload_n 1, 1) := by decide +kernel
theorem dM_told_7 : decode (hr_cd 181) 7 = .ok (.imul, 1) := by decide +kernel
theorem dM_told_8 : decode (hr_cd 181) 8 = .ok (.iload_n 2, 1) := by decide +kernel
theorem dM_told_9 : decode (hr_cd 181) 9 = .ok (.iadd, 1) := by decide +kernel
theorem dM_told_10 : decode (hr_cd 181) 10 = .ok (.laload, 1) := by decide +kernel
theorem dM_told_11 : decode (hr_cd 181) 11 = .ok (.lreturn, 1) := by decide +kernel
theorem dM_tells_0 : decode (hr_cd 182) 0 = .ok (.aload_n 0, 1) := by decide +kernel
theorem dM_tells_1 : decode (hr_cd 182) 1 = .ok (.getfield 41, 3) := by decide +kernel
theorem dM_tells_4 : decode (hr_cd 182) 4 = .ok (.bipush 40, 2) := by decide +kernel
theorem dM_tells_6 : decode (hr_cd 182) 6 = .ok (.iload_n 1, 1) := by decide +kernel
theorem dM_tells_7 : decode (hr_cd 182) 7 = .ok (.imul, 1) := by decide +kernel
theorem dM_tells_8 : decode (hr_cd 182) 8 = .ok (.iload_n 2, 1) := by decide +kernel
theorem dM_tells_9 : decode (hr_cd 182) 9 = .ok (.iadd, 1) := by decide +kernel
theorem dM_tells_10 : decode (hr_cd 182) 10 = .ok (.aload_n 0, 1) := by decide +kernel
theorem dM_tells_11 : decode (hr_cd 182) 11 = .ok (.getfield 35, 3) := by decide +kernel
theorem dM_tells_14 : decode (hr_cd 182) 14 = .ok (.iload_n 1, 1) := by decide +kernel
theorem dM_tells_15 : decode (hr_cd 182) 15 = .ok (.iaload, 1) := by decide +kernel
theorem dM_tells_16 : decode (hr_cd 182) 16 = .ok (.bipush 8, 2) := by decide +kernel
theorem dM_tells_18 : decode (hr_cd 182) 18 = .ok (.if_icmp .ne 10, 3) := by decide +kernel
theorem dM_tells_21 : decode (hr_cd 182) 21 = .ok (.lload_n 3, 1) := by decide +kernel
theorem dM_tells_22 : decode (hr_cd 182) 22 = .ok (.l2i, 1) := by decide +kernel
theorem dM_tells_23 : decode (hr_cd 182) 23 = .ok (.i2b, 1) := by decide +kernel
theorem dM_tells_24 : decode (hr_cd 182) 24 = .ok (.i2l, 1) := by decide +kernel
theorem dM_tells_25 : decode (hr_cd 182) 25 = .ok (.goto 22, 3) := by decide +kernel
theorem dM_tells_28 : decode (hr_cd 182) 28 = .ok (.aload_n 0, 1) := by decide +kernel
theorem dM_tells_29 : decode (hr_cd 182) 29 = .ok (.getfield 35, 3) := by decide +kernel
theorem dM_tells_32 : decode (hr_cd 182) 32 = .ok (.iload_n 1, 1) := by decide +kernel
theorem dM_tells_33 : decode (hr_cd 182) 33 = .ok (.iaload, 1) := by decide +kernel
theorem dM_tells_34 : decode (hr_cd 182) 34 = .ok (.bipush 16, 2) := by decide +kernel
theorem dM_tells_36 : decode (hr_cd 182) 36 = .ok (.if_icmp .ne 10, 3) := by decide +kernel
theorem dM_tells_39 : decode (hr_cd 182) 39 = .ok (.lload_n 3, 1) := by decide +kernel
theorem dM_tells_40 : decode (hr_cd 182) 40 = .ok (.l2i, 1) := by decide +kernel
theorem dM_tells_41 : decode (hr_cd 182) 41 = .ok (.i2s, 1) := by decide +kernel
theorem dM_tells_42 : decode (hr_cd 182) 42 = .ok (.i2l, 1) := by decide +kernel
theorem dM_tells_43 : decode (hr_cd 182) 43 = .ok (.goto 4, 3) := by decide +kernel
theorem dM_tells_46 : decode (hr_cd 182) 46 = .ok (.lload_n 3, 1) := by decide +kernel
theorem dM_tells_47 : decode (hr_cd 182) 47 = .ok (.lastore, 1) := by decide +kernel
theorem dM_tells_48 : decode (hr_cd 182) 48 = .ok (.return_, 1) := by decide +kernel
theorem dM_copy_0 : decode (hr_cd 183) 0 = .ok (.iload_n 1, 1) := by decide +kernel
theorem dM_copy_1 : decode (hr_cd 183) 1 = .ok (.invokestatic 202, 3) := by decide +kernel
theorem dM_copy_4 : decode (hr_cd 183) 4 = .ok (.ifCond .eq 10, 3) := by decide +kernel
theorem dM_copy_7 : decode (hr_cd 183) 7 = .ok (.iload_n 3, 1) := by decide +kernel
theorem dM_copy_8 : decode (hr_cd 183) 8 = .ok (.invokestatic 202, 3) := by decide +kernel
theorem dM_copy_11 : decode (hr_cd 183) 11 = .ok (.ifCond .ne 9, 3) := by decide +kernel
theorem dM_copy_14 : decode (hr_cd 183) 14 = .ok (.aload_n 0, 1) := by decide +kernel
theorem dM_copy_15 : decode (hr_cd 183) 15 = .ok (.iconst 0, 1) := by decide +kernel
theorem dM_copy_16 : decode (hr_cd 183) 16 = .ok (.invokevirtual 98, 3) := by decide +kernel
theorem dM_copy_19 : decode (hr_cd 183) 19 = .ok (.ireturn, 1) := by decide +kernel
theorem dM_copy_20 : decode (hr_cd 183) 20 = .ok (.aload_n 0, 1) := by decide +kernel
theorem dM_copy_21 : decode (hr_cd 183) 21 = .ok (.getfield 35, 3) := by decide +kernel
theorem dM_copy_24 : decode (hr_cd 183) 24 = .ok (.iload_n 1, 1) := by decide +kernel
theorem dM_copy_25 : decode (hr_cd 183) 25 = .ok (.iaload, 1) := by decide +kernel
theorem dM_copy_26 : decode (hr_cd 183) 26 = .ok (.ifCond .eq 12, 3) := by decide +kernel
theorem dM_copy_29 : decode (hr_cd 183) 29 = .ok (.aload_n 0, 1) := by decide +kernel
theorem dM_copy_30 : decode (hr_cd 183) 30 = .ok (.getfield 35, 3) := by decide +kernel
theorem dM_copy_33 : decode (hr_cd 183) 33 = .ok (.iload_n 3, 1) := by decide +kernel
theorem dM_copy_34 : decode (hr_cd 183) 34 = .ok (.iaload, 1) := by decide +kernel
theorem dM_copy_35 : decode (hr_cd 183) 35 = .ok (.ifCond .ne 9, 3) := by decide +kernel
theorem dM_copy_38 : decode (hr_cd 183) 38 = .ok (.aload_n 0, 1) := by decide +kernel
theorem dM_copy_39 : decode (hr_cd 183) 39 = .ok (.iconst 5, 1) := by decide +kernel
theorem dM_copy_40 : decode (hr_cd 183) 40 = .ok (.invokevirtual 98, 3) := by decide +kernel
theorem dM_copy_43 : decode (hr_cd 183) 43 = .ok (.ireturn, 1) := by decide +kernel
theorem dM_copy_44 : decode (hr_cd 183) 44 = .ok (.aload_n 0, 1) := by decide +kernel
theorem dM_copy_45 : decode (hr_cd 183) 45 = .ok (.getfield 35, 3) := by decide +kernel
theorem dM_copy_48 : decode (hr_cd 183) 48 = .ok (.iload_n 1, 1) := by decide +kernel
theorem dM_copy_49 : decode (hr_cd 183) 49 = .ok (.iaload, 1) := by decide +kernel
theorem dM_copy_50 : decode (hr_cd 183) 50 = .ok (.aload_n 0, 1) := by decide +kernel
theorem dM_copy_51 : decode (hr_cd 183) 51 = .ok (.getfield 35, 3) := by decide +kernel
theorem dM_copy_54 : decode (hr_cd 183) 54 = .ok (.iload_n 3, 1) := by decide +kernel
theorem dM_copy_55 : decode (hr_cd 183) 55 = .ok (.iaload, 1) := by decide +kernel
theorem dM_copy_56 : decode (hr_cd 183) 56 = .ok (.if_icmp .eq 9, 3) := by decide +kernel
theorem dM_copy_59 : decode (hr_cd 183) 59 = .ok (.aload_n 0, 1) := by decide +kernel
theorem dM_copy_60 : decode (hr_cd 183) 60 = .ok (.iconst 2, 1) := by decide +kernel
theorem dM_copy_61 : decode (hr_cd 183) 61 = .ok (.invokevirtual 98, 3) := by decide +kernel
theorem dM_copy_64 : decode (hr_cd 183) 64 = .ok (.ireturn, 1) := by decide +kernel
theorem dM_copy_65 : decode (hr_cd 183) 65 = .ok (.iload 5, 2) := by decide +kernel
theorem dM_copy_67 : decode (hr_cd 183) 67 = .ok (.ifCond .lt 39, 3) := by decide +kernel
theorem dM_copy_70 : decode (hr_cd 183) 70 = .ok (.iload_n 2, 1) := by decide +kernel
theorem dM_copy_71 : decode (hr_cd 183) 71 = .ok (.ifCond .lt 35, 3) := by decide +kernel
theorem dM_copy_74 : decode (hr_cd 183) 74 = .ok (.iload 4, 2) := by decide +kernel
theorem dM_copy_76 : decode (hr_cd 183) 76 = .ok (.ifCond .lt 30, 3) := by decide +kernel
theorem dM_copy_79 : decode (hr_cd 183) 79 = .ok (.iload_n 2, 1) := by decide +kernel
theorem dM_copy_80 : decode (hr_cd 183) 80 = .ok (.aload_n 0, 1) := by decide +kernel
theorem dM_copy_81 : decode (hr_cd 183) 81 = .ok (.getfield 38, 3) := by decide +kernel
theorem dM_copy_84 : decode (hr_cd 183) 84 = .ok (.iload_n 1, 1) := by decide +kernel
theorem dM_copy_85 : decode (hr_cd 183) 85 = .ok (.iaload, 1) := by decide +kernel
theorem dM_copy_86 : decode (hr_cd 183) 86 = .ok (.iload 5, 2) := by decide +kernel
theorem dM_copy_88 : decode (hr_cd 183) 88 = .ok (.isub, 1) := by decide +kernel
theorem dM_copy_89 : decode (hr_cd 183) 89 = .ok (.if_icmp .gt 17, 3) := by decide +kernel
theorem dM_copy_92 : decode (hr_cd 183) 92 = .ok (.iload 4, 2) := by decide +kernel
theorem dM_copy_94 : decode (hr_cd 183) 94 = .ok (.aload_n 0, 1) := by decide +kernel
theorem dM_copy_95 : decode (hr_cd 183) 95 = .ok (.getfield 38, 3) := by decide +kernel
theorem dM_copy_98 : decode (hr_cd 183) 98 = .ok (.iload_n 3, 1) := by decide +kernel
theorem dM_copy_99 : decode (hr_cd 183) 99 = .ok (.iaload, 1) := by decide +kernel
theorem dM_copy_100 : decode (hr_cd 183) 100 = .ok (.iload 5, 2) := by decide +kernel
theorem dM_copy_102 : decode (hr_cd 183) 102 = .ok (.isub, 1) := by decide +kernel
theorem dM_copy_103 : decode (hr_cd 183) 103 = .ok (.if_icmp .le 9, 3) := by decide +kernel
theorem dM_copy_106 : decode (hr_cd 183) 106 = .ok (.aload_n 0, 1) := by decide +kernel
theorem dM_copy_107 : decode (hr_cd 183) 107 = .ok (.iconst 0, 1) := by decide +kernel
theorem dM_copy_108 : decode (hr_cd 183) 108 = .ok (.invokevirtual 98, 3) := by decide +kernel
theorem dM_copy_111 : decode (hr_cd 183) 111 = .ok (.ireturn, 1) := by decide +kernel
theorem dM_copy_112 : decode (hr_cd 183) 112 = .ok (.iconst 0, 1) := by decide +kernel
theorem dM_copy_113 : decode (hr_cd 183) 113 = .ok (.istore 6, 2) := by decide +kernel
theorem dM_copy_115 : decode (hr_cd 183) 115 = .ok (.iload 6, 2) := by decide +kernel
theorem dM_copy_117 : decode (hr_cd 183) 117 = .ok (.iload 5, 2) := by decide +kernel
theorem dM_copy_119 : decode (hr_cd 183) 119 = .ok (.if_icmp .ge 25, 3) := by decide +kernel
theorem dM_copy_122 : decode (hr_cd 183) 122 = .ok (.aload_n 0, 1) := by decide +kernel
theorem dM_copy_123 : decode (hr_cd 183) 123 = .ok (.getfield 45, 3) := by decide +kernel
theorem dM_copy_126 : decode (hr_cd 183) 126 = .ok (.iload 6, 2) := by decide +kernel
theorem dM_copy_128 : decode (hr_cd 183) 128 = .ok (.aload_n 0, 1) := by decide +kernel
theorem dM_copy_129 : decode (hr_cd 183) 129 = .ok (.iload_n 1, 1) := by decide +kernel
theorem dM_copy_130 : decode (hr_cd 183) 130 = .ok (.iload_n 2, 1) := by decide +kernel
theorem dM_copy_131 : decode (hr_cd 183) 131 = .ok (.iload 6, 2) := by decide +kernel
theorem dM_copy_133 : decode (hr_cd 183) 133 = .ok (.iadd, 1) := by decide +kernel
theorem dM_copy_134 : decode (hr_cd 183) 134 = .ok (.invokevirtual 208, 3) := by decide +kernel
theorem dM_copy_137 : decode (hr_cd 183) 137 = .ok (.lastore, 1) := by decide +kernel
theorem dM_copy_138 : decode (hr_cd 183) 138 = .ok (.iinc 6 1, 3) := by decide +kernel
theorem dM_copy_141 : decode (hr_cd 183) 141 = .ok (.goto (-26), 3) := by decide +kernel
theorem dM_copy_144 : decode (hr_cd 183) 144 = .ok (.iconst 0, 1) := by decide +kernel
theorem dM_copy_145 : decode (hr_cd 183) 145 = .ok (.istore 6, 2) := by decide +kernel
theorem dM_copy_147 : decode (hr_cd 183) 147 = .ok (.iload 6, 2) := by decide +kernel
theorem dM_copy_149 : decode (hr_cd 183) 149 = .ok (.iload 5, 2) := by decide +kernel
theorem dM_copy_151 : decode (hr_cd 183) 151 = .ok (.if_icmp .ge 31, 3) := by decide +kernel
theorem dM_copy_154 : decode (hr_cd 183) 154 = .ok (.aload_n 0, 1) := by decide +kernel
theorem dM_copy_155 : decode (hr_cd 183) 155 = .ok (.getfield 41, 3) := by decide +kernel
theorem dM_copy_158 : decode (hr_cd 183) 158 = .ok (.bipush 40, 2) := by decide +kernel
theorem dM_copy_160 : decode (hr_cd 183) 160 = .ok (.iload_n 3, 1) := by decide +kernel
theorem dM_copy_161 : decode (hr_cd 183) 161 = .ok (.imul, 1) := by decide +kernel
theorem dM_copy_162 : decode (hr_cd 183) 162 = .ok (.iload 4, 2) := by decide +kernel
theorem dM_copy_164 : decode (hr_cd 183) 164 = .ok (.iadd, 1) := by decide +kernel
theorem dM_copy_165 : decode (hr_cd 183) 165 = .ok (.iload 6, 2) := by decide +kernel
theorem dM_copy_167 : decode (hr_cd 183) 167 = .ok (.iadd, 1) := by decide +kernel
theorem dM_copy_168 : decode (hr_cd 183) 168 = .ok (.aload_n 0, 1) := by decide +kernel
theorem dM_copy_169 : decode (hr_cd 183) 169 = .ok (.getfield 45, 3) := by decide +kernel
theorem dM_copy_172 : decode (hr_cd 183) 172 = .ok (.iload 6, 2) := by decide +kernel
theorem dM_copy_174 : decode (hr_cd 183) 174 = .ok (.laload, 1) := by decide +kernel
theorem dM_copy_175 : decode (hr_cd 183) 175 = .ok (.lastore, 1) := by decide +kernel
theorem dM_copy_176 : decode (hr_cd 183) 176 = .ok (.iinc 6 1, 3) := by decide +kernel
theorem dM_copy_179 : decode (hr_cd 183) 179 = .ok (.goto (-32), 3) := by decide +kernel
theorem dM_copy_182 : decode (hr_cd 183) 182 = .ok (.iload 5, 2) := by decide +kernel
theorem dM_copy_184 : decode (hr_cd 183) 184 = .ok (.ireturn, 1) := by decide +kernel
theorem dM_lays_0 : decode (hr_cd 184) 0 = .ok (.aload_n 0, 1) := by decide +kernel
theorem dM_lays_1 : decode (hr_cd 184) 1 = .ok (.iload_n 1, 1) := by decide +kernel
theorem dM_lays_2 : decode (hr_cd 184) 2 = .ok (.invokevirtual 205, 3) := by decide +kernel
theorem dM_lays_5 : decode (hr_cd 184) 5 = .ok (.istore_n 2, 1) := by decide +kernel
theorem dM_lays_6 : decode (hr_cd 184) 6 = .ok (.iload_n 2, 1) := by decide +kernel
theorem dM_lays_7 : decode (hr_cd 184) 7 = .ok (.ifCond .lt 9, 3) := by decide +kernel
theorem dM_lays_10 : decode (hr_cd 184) 10 = .ok (.aload_n 0, 1) := by decide +kernel
theorem dM_lays_11 : decode (hr_cd 184) 11 = .ok (.iload_n 2, 1) := by decide +kernel
theorem dM_lays_12 : decode (hr_cd 184) 12 = .ok (.invokevirtual 98, 3) := by decide +kernel
theorem dM_lays_15 : decode (hr_cd 184) 15 = .ok (.ireturn, 1) := by decide +kernel
theorem dM_lays_16 : decode (hr_cd 184) 16 = .ok (.iconst 0, 1) := by decide +kernel
theorem dM_lays_17 : decode (hr_cd 184) 17 = .ok (.istore_n 3, 1) := by decide +kernel
theorem dM_lays_18 : decode (hr_cd 184) 18 = .ok (.iconst 0, 1) := by decide +kernel
theorem dM_lays_19 : decode (hr_cd 184) 19 = .ok (.istore 4, 2) := by decide +kernel
theorem dM_lays_21 : decode (hr_cd 184) 21 = .ok (.iload 4, 2) := by decide +kernel
theorem dM_lays_23 : decode (hr_cd 184) 23 = .ok (.aload_n 0, 1) := by decide +kernel
theorem dM_lays_24 : decode (hr_cd 184) 24 = .ok (.getfield 38, 3) := by decide +kernel
theorem dM_lays_27 : decode (hr_cd 184) 27 = .ok (.iload_n 1, 1) := by decide +kernel
theorem dM_lays_28 : decode (hr_cd 184) 28 = .ok (.iaload, 1) := by decide +kernel
theorem dM_lays_29 : decode (hr_cd 184) 29 = .ok (.if_icmp .ge 96, 3) := by decide +kernel
theorem dM_lays_32 : decode (hr_cd 184) 32 = .ok (.iload 4, 2) := by decide +kernel
theorem dM_lays_34 : decode (hr_cd 184) 34 = .ok (.aload_n 0, 1) := by decide +kernel
theorem dM_lays_35 : decode (hr_cd 184) 35 = .ok (.getfield 9, 3) := by decide +kernel
theorem dM_lays_38 : decode (hr_cd 184) 38 = .ok (.iconst 5, 1) := by decide +kernel
theorem dM_lays_39 : decode (hr_cd 184) 39 = .ok (.iaload, 1) := by decide +kernel
theorem dM_lays_40 : decode (hr_cd 184) 40 = .ok (.if_icmp .ge 85, 3) := by decide +kernel
theorem dM_lays_43 : decode (hr_cd 184) 43 = .ok (.aload_n 0, 1) := by decide +kernel
theorem dM_lays_44 : decode (hr_cd 184) 44 = .ok (.iload_n 1, 1) := by decide +kernel
theorem dM_lays_45 : decode (hr_cd 184) 45 = .ok (.iload 4, 2) := by decide +kernel
theorem dM_lays_47 : decode (hr_cd 184) 47 = .ok (.invokevirtual 208, 3) := by decide +kernel
theorem dM_lays_50 : decode (hr_cd 184) 50 = .ok (.lconst 0, 1) := by decide +kernel
theorem dM_lays_51 : decode (hr_cd 184) 51 = .ok (.lcmp, 1) := by decide +kernel
theorem dM_lays_52 : decode (hr_cd 184) 52 = .ok (.ifCond .lt 21, 3) := by decide +kernel
theorem dM_lays_55 : decode (hr_cd 184) 55 = .ok (.aload_n 0, 1) := by decide +kernel
theorem dM_lays_56 : decode (hr_cd 184) 56 = .ok (.iload_n 1, 1) := by decide +kernel
theorem dM_lays_57 : decode (hr_cd 184) 57 = .ok (.iload 4, 2) := by decide +kernel
theorem dM_lays_59 : decode (hr_cd 184) 59 = .ok (.invokevirtual 208, 3) := by decide +kernel
theorem dM_lays_62 : decode (hr_cd 184) 62 = .ok (.ldc2_w 216, 3) := by decide +kernel
theorem dM_lays_65 : decode (hr_cd 184) 65 = .ok (.lcmp, 1) := by decide +kernel
theorem dM_lays_66 : decode (hr_cd 184) 66 = .ok (.ifCond .gt 7, 3) := by decide +kernel
theorem dM_lays_69 : decode (hr_cd 184) 69 = .ok (.iconst 1, 1) := by decide +kernel
theorem dM_lays_70 : decode (hr_cd 184) 70 = .ok (.goto 4, 3) := by decide +kernel
theorem dM_lays_73 : decode (hr_cd 184) 73 = .ok (.iconst 0, 1) := by decide +kernel
theorem dM_lays_74 : decode (hr_cd 184) 74 = .ok (.istore 5, 2) := by decide +kernel
theorem dM_lays_76 : decode (hr_cd 184) 76 = .ok (.aload_n 0, 1) := by decide +kernel
theorem dM_lays_77 : decode (hr_cd 184) 77 = .ok (.iload 4, 2) := by decide +kernel
theorem dM_lays_79 : decode (hr_cd 184) 79 = .ok (.iconst 2, 1) := by decide +kernel
theorem dM_lays_80 : decode (hr_cd 184) 80 = .ok (.iload 5, 2) := by decide +kernel
theorem dM_lays_82 : decode (hr_cd 184) 82 = .ok (.ifCond .eq 14, 3) := by decide +kernel
theorem dM_lays_85 : decode (hr_cd 184) 85 = .ok (.aload_n 0, 1) := by decide +kernel
theorem dM_lays_86 : decode (hr_cd 184) 86 = .ok (.iload_n 1, 1) := by decide +kernel
theorem dM_lays_87 : decode (hr_cd 184) 87 = .ok (.iload 4, 2) := by decide +kernel
theorem dM_lays_89 : decode (hr_cd 184) 89 = .ok (.invokevirtual 208, 3) := by decide +kernel
theorem dM_lays_92 : decode (hr_cd 184) 92 = .ok (.l2i, 1) := by decide +kernel
theorem dM_lays_93 : decode (hr_cd 184) 93 = .ok (.goto 10, 3) := by decide +kernel
theorem dM_lays_96 : decode (hr_cd 184) 96 = .ok (.aload_n 0, 1) := by decide +kernel
theorem dM_lays_97 : decode (hr_cd 184) 97 = .ok (.iload 4, 2) := by decide +kernel
theorem dM_lays_99 : decode (hr_cd 184) 99 = .ok (.iconst 2, 1) := by decide +kernel
theorem dM_lays_100 : decode (hr_cd 184) 100 = .ok (.invokevirtual 53, 3) := by decide +kernel
theorem dM_lays_103 : decode (hr_cd 184) 103 = .ok (.invokevirtual 84, 3) := by decide +kernel
theorem dM_lays_106 : decode (hr_cd 184) 106 = .ok (.iload_n 3, 1) := by decide +kernel
theorem dM_lays_107 : decode (hr_cd 184) 107 = .ok (.iload 5, 2) := by decide +kernel
theorem dM_lays_109 : decode (hr_cd 184) 109 = .ok (.ifCond .eq 7, 3) := by decide +kernel
theorem dM_lays_112 : decode (hr_cd 184) 112 = .ok (.iconst 1, 1) := by decide +kernel
theorem dM_lays_113 : decode (hr_cd 184) 113 = .ok (.goto 4, 3) := by decide +kernel
theorem dM_lays_116 : decode (hr_cd 184) 116 = .ok (.iconst 0, 1) := by decide +kernel
theorem dM_lays_117 : decode (hr_cd 184) 117 = .ok (.iadd, 1) := by decide +kernel
theorem dM_lays_118 : decode (hr_cd 184) 118 = .ok (.istore_n 3, 1) := by decide +kernel
theorem dM_lays_119 : decode (hr_cd 184) 119 = .ok (.iinc 4 1, 3) := by decide +kernel
theorem dM_lays_122 : decode (hr_cd 184) 122 = .ok (.goto (-101), 3) := by decide +kernel
theorem dM_lays_125 : decode (hr_cd 184) 125 = .ok (.iload_n 3, 1) := by decide +kernel
theorem dM_lays_126 : decode (hr_cd 184) 126 = .ok (.ireturn, 1) := by decide +kernel
theorem dM_book_0 : decode (hr_cd 185) 0 = .ok (.aload_n 0, 1) := by decide +kernel
theorem dM_book_1 : decode (hr_cd 185) 1 = .ok (.iload_n 1, 1) := by decide +kernel
theorem dM_book_2 : decode (hr_cd 185) 2 = .ok (.invokevirtual 205, 3) := by decide +kernel
theorem dM_book_5 : decode (hr_cd 185) 5 = .ok (.istore_n 2, 1) := by decide +kernel
theorem dM_book_6 : decode (hr_cd 185) 6 = .ok (.iload_n 2, 1) := by decide +kernel
theorem dM_book_7 : decode (hr_cd 185) 7 = .ok (.ifCond .lt 9, 3) := by decide +kernel
theorem dM_book_10 : decode (hr_cd 185) 10 = .ok (.aload_n 0, 1) := by decide +kernel
theorem dM_book_11 : decode (hr_cd 185) 11 = .ok (.iload_n 2, 1) := by decide +kernel
theorem dM_book_12 : decode (hr_cd 185) 12 = .ok (.invokevirtual 98, 3) := by decide +kernel
theorem dM_book_15 : decode (hr_cd 185) 15 = .ok (.ireturn, 1) := by decide +kernel
theorem dM_book_16 : decode (hr_cd 185) 16 = .ok (.aload_n 0, 1) := by decide +kernel
theorem dM_book_17 : decode (hr_cd 185) 17 = .ok (.invokevirtual 121, 3) := by decide +kernel
theorem dM_book_20 : decode (hr_cd 185) 20 = .ok (.iconst 0, 1) := by decide +kernel
theorem dM_book_21 : decode (hr_cd 185) 21 = .ok (.istore_n 3, 1) := by decide +kernel
theorem dM_book_22 : decode (hr_cd 185) 22 = .ok (.iload_n 3, 1) := by decide +kernel
theorem dM_book_23 : decode (hr_cd 185) 23 = .ok (.aload_n 0, 1) := by decide +kernel
theorem dM_book_24 : decode (hr_cd 185) 24 = .ok (.getfield 38, 3) := by decide +kernel
theorem dM_book_27 : decode (hr_cd 185) 27 = .ok (.iload_n 1, 1) := by decide +kernel
theorem dM_book_28 : decode (hr_cd 185) 28 = .ok (.iaload, 1) := by decide +kernel
theorem dM_book_29 : decode (hr_cd 185) 29 = .ok (.if_icmp .ge 26, 3) := by decide +kernel
theorem dM_book_32 : decode (hr_cd 185) 32 = .ok (.aload_n 0, 1) := by decide +kernel
theorem dM_book_33 : decode (hr_cd 185) 33 = .ok (.iload_n 1, 1) := by decide +kernel
theorem dM_book_34 : decode (hr_cd 185) 34 = .ok (.iload_n 3, 1) := by decide +kernel
theorem dM_book_35 : decode (hr_cd 185) 35 = .ok (.aload_n 0, 1) := by decide +kernel
theorem dM_book_36 : decode (hr_cd 185) 36 = .ok (.getfield 9, 3) := by decide +kernel
theorem dM_book_39 : decode (hr_cd 185) 39 = .ok (.iconst 1, 1) := by decide +kernel
theorem dM_book_40 : decode (hr_cd 185) 40 = .ok (.iaload, 1) := by decide +kernel
theorem dM_book_41 : decode (hr_cd 185) 41 = .ok (.i2l, 1) := by decide +kernel
theorem dM_book_42 : decode (hr_cd 185) 42 = .ok (.invokevirtual 212, 3) := by decide +kernel
theorem dM_book_45 : decode (hr_cd 185) 45 = .ok (.aload_n 0, 1) := by decide +kernel
theorem dM_book_46 : decode (hr_cd 185) 46 = .ok (.invokevirtual 95, 3) := by decide +kernel
theorem dM_book_49 : decode (hr_cd 185) 49 = .ok (.iinc 3 1, 3) := by decide +kernel
theorem dM_book_52 : decode (hr_cd 185) 52 = .ok (.goto (-30), 3) := by decide +kernel
theorem dM_book_55 : decode (hr_cd 185) 55 = .ok (.aload_n 0, 1) := by decide +kernel
theorem dM_book_56 : decode (hr_cd 185) 56 = .ok (.invokevirtual 124, 3) := by decide +kernel
theorem dM_book_59 : decode (hr_cd 185) 59 = .ok (.aload_n 0, 1) := by decide +kernel
theorem dM_book_60 : decode (hr_cd 185) 60 = .ok (.getfield 38, 3) := by decide +kernel
theorem dM_book_63 : decode (hr_cd 185) 63 = .ok (.iload_n 1, 1) := by decide +kernel
theorem dM_book_64 : decode (hr_cd 185) 64 = .ok (.iaload, 1) := by decide +kernel
theorem dM_book_65 : decode (hr_cd 185) 65 = .ok (.ireturn, 1) := by decide +kernel
theorem dM_read_0 : decode (hr_cd 186) 0 = .ok (.aload_n 0, 1) := by decide +kernel
theorem dM_read_1 : decode (hr_cd 186) 1 = .ok (.iload_n 1, 1) := by decide +kernel
theorem dM_read_2 : decode (hr_cd 186) 2 = .ok (.invokevirtual 205, 3) := by decide +kernel
theorem dM_read_5 : decode (hr_cd 186) 5 = .ok (.istore_n 2, 1) := by decide +kernel
theorem dM_read_6 : decode (hr_cd 186) 6 = .ok (.iload_n 2, 1) := by decide +kernel
theorem dM_read_7 : decode (hr_cd 186) 7 = .ok (.ifCond .lt 9, 3) := by decide +kernel
theorem dM_read_10 : decode (hr_cd 186) 10 = .ok (.aload_n 0, 1) := by decide +kernel
theorem dM_read_11 : decode (hr_cd 186) 11 = .ok (.iload_n 2, 1) := by decide +kernel
theorem dM_read_12 : decode (hr_cd 186) 12 = .ok (.invokevirtual 98, 3) := by decide +kernel
theorem dM_read_15 : decode (hr_cd 186) 15 = .ok (.ireturn, 1) := by decide +kernel
theorem dM_read_16 : decode (hr_cd 186) 16 = .ok (.iconst 0, 1) := by decide +kernel
theorem dM_read_17 : decode (hr_cd 186) 17 = .ok (.istore_n 3, 1) := by decide +kernel
theorem dM_read_18 : decode (hr_cd 186) 18 = .ok (.aload_n 0, 1) := by decide +kernel
theorem dM_read_19 : decode (hr_cd 186) 19 = .ok (.invokevirtual 121, 3) := by decide +kernel
theorem dM_read_22 : decode (hr_cd 186) 22 = .ok (.iconst 0, 1) := by decide +kernel
theorem dM_read_23 : decode (hr_cd 186) 23 = .ok (.istore 4, 2) := by decide +kernel
theorem dM_read_25 : decode (hr_cd 186) 25 = .ok (.iload 4, 2) := by decide +kernel
theorem dM_read_27 : decode (hr_cd 186) 27 = .ok (.bipush 20, 2) := by decide +kernel
theorem dM_read_29 : decode (hr_cd 186) 29 = .ok (.if_icmp .ge 49, 3) := by decide +kernel
theorem dM_read_32 : decode (hr_cd 186) 32 = .ok (.aload_n 0, 1) := by decide +kernel
theorem dM_read_33 : decode (hr_cd 186) 33 = .ok (.getfield 9, 3) := by decide +kernel
theorem dM_read_36 : decode (hr_cd 186) 36 = .ok (.iconst 2, 1) := by decide +kernel
theorem dM_read_37 : decode (hr_cd 186) 37 = .ok (.iload 4, 2) := by decide +kernel
theorem dM_read_39 : decode (hr_cd 186) 39 = .ok (.iconst 2, 1) := by decide +kernel
theorem dM_read_40 : decode (hr_cd 186) 40 = .ok (.idiv, 1) := by decide +kernel
theorem dM_read_41 : decode (hr_cd 186) 41 = .ok (.iastore, 1) := by decide +kernel
theorem dM_read_42 : decode (hr_cd 186) 42 = .ok (.aload_n 0, 1) := by decide +kernel
theorem dM_read_43 : decode (hr_cd 186) 43 = .ok (.getfield 9, 3) := by decide +kernel
theorem dM_read_46 : decode (hr_cd 186) 46 = .ok (.iconst 3, 1) := by decide +kernel
theorem dM_read_47 : decode (hr_cd 186) 47 = .ok (.iload 4, 2) := by decide +kernel
theorem dM_read_49 : decode (hr_cd 186) 49 = .ok (.iconst 2, 1) := by decide +kernel
theorem dM_read_50 : decode (hr_cd 186) 50 = .ok (.irem, 1) := by decide +kernel
theorem dM_read_51 : decode (hr_cd 186) 51 = .ok (.iastore, 1) := by decide +kernel
theorem dM_read_52 : decode (hr_cd 186) 52 = .ok (.iload_n 3, 1) := by decide +kernel
theorem dM_read_53 : decode (hr_cd 186) 53 = .ok (.aload_n 0, 1) := by decide +kernel
theorem dM_read_54 : decode (hr_cd 186) 54 = .ok (.iload_n 1, 1) := by decide +kernel
theorem dM_read_55 : decode (hr_cd 186) 55 = .ok (.invokevirtual 218, 3) := by decide +kernel
theorem dM_read_58 : decode (hr_cd 186) 58 = .ok (.ifCond .eq 7, 3) := by decide +kernel
theorem dM_read_61 : decode (hr_cd 186) 61 = .ok (.iconst 1, 1) := by decide +kernel
theorem dM_read_62 : decode (hr_cd 186) 62 = .ok (.goto 4, 3) := by decide +kernel
theorem dM_read_65 : decode (hr_cd 186) 65 = .ok (.iconst 0, 1) := by decide +kernel
theorem dM_read_66 : decode (hr_cd 186) 66 = .ok (.iadd, 1) := by decide +kernel
theorem dM_read_67 : decode (hr_cd 186) 67 = .ok (.istore_n 3, 1) := by decide +kernel
theorem dM_read_68 : decode (hr_cd 186) 68 = .ok (.aload_n 0, 1) := by decide +kernel
theorem dM_read_69 : decode (hr_cd 186) 69 = .ok (.invokevirtual 124, 3) := by decide +kernel
theorem dM_read_72 : decode (hr_cd 186) 72 = .ok (.iinc 4 1, 3) := by decide +kernel
theorem dM_read_75 : decode (hr_cd 186) 75 = .ok (.goto (-50), 3) := by decide +kernel
theorem dM_read_78 : decode (hr_cd 186) 78 = .ok (.iload_n 3, 1) := by decide +kernel
theorem dM_read_79 : decode (hr_cd 186) 79 = .ok (.ireturn, 1) := by decide +kernel
theorem dM_isSo_0 : decode (hr_cd 187) 0 = .ok (.iconst 1, 1) := by decide +kernel
theorem dM_isSo_1 : decode (hr_cd 187) 1 = .ok (.istore_n 2, 1) := by decide +kernel
theorem dM_isSo_2 : decode (hr_cd 187) 2 = .ok (.iconst 0, 1) := by decide +kernel
theorem dM_isSo_3 : decode (hr_cd 187) 3 = .ok (.istore_n 3, 1) := by decide +kernel
theorem dM_isSo_4 : decode (hr_cd 187) 4 = .ok (.iload_n 3, 1) := by decide +kernel
theorem dM_isSo_5 : decode (hr_cd 187) 5 = .ok (.aload_n 0, 1) := by decide +kernel
theorem dM_isSo_6 : decode (hr_cd 187) 6 = .ok (.getfield 38, 3) := by decide +kernel
theorem dM_isSo_9 : decode (hr_cd 187) 9 = .ok (.iload_n 1, 1) := by decide +kernel
theorem dM_isSo_10 : decode (hr_cd 187) 10 = .ok (.iaload, 1) := by decide +kernel
theorem dM_isSo_11 : decode (hr_cd 187) 11 = .ok (.if_icmp .ge 40, 3) := by decide +kernel
theorem dM_isSo_14 : decode (hr_cd 187) 14 = .ok (.iload_n 2, 1) := by decide +kernel
theorem dM_isSo_15 : decode (hr_cd 187) 15 = .ok (.ifCond .eq 36, 3) := by decide +kernel
theorem dM_isSo_18 : decode (hr_cd 187) 18 = .ok (.aload_n 0, 1) := by decide +kernel
theorem dM_isSo_19 : decode (hr_cd 187) 19 = .ok (.iload_n 1, 1) := by decide +kernel
theorem dM_isSo_20 : decode (hr_cd 187) 20 = .ok (.iload_n 3, 1) := by decide +kernel
theorem dM_isSo_21 : decode (hr_cd 187) 21 = .ok (.invokevirtual 208, 3) := by decide +kernel
theorem dM_isSo_24 : decode (hr_cd 187) 24 = .ok (.aload_n 0, 1) := by decide +kernel
theorem dM_isSo_25 : decode (hr_cd 187) 25 = .ok (.getfield 9, 3) := by decide +kernel
theorem dM_isSo_28 : decode (hr_cd 187) 28 = .ok (.iconst 1, 1) := by decide +kernel
theorem dM_isSo_29 : decode (hr_cd 187) 29 = .ok (.iaload, 1) := by decide +kernel
theorem dM_isSo_30 : decode (hr_cd 187) 30 = .ok (.i2l, 1) := by decide +kernel
theorem dM_isSo_31 : decode (hr_cd 187) 31 = .ok (.lcmp, 1) := by decide +kernel
theorem dM_isSo_32 : decode (hr_cd 187) 32 = .ok (.ifCond .ne 7, 3) := by decide +kernel
theorem dM_isSo_35 : decode (hr_cd 187) 35 = .ok (.iconst 1, 1) := by decide +kernel
theorem dM_isSo_36 : decode (hr_cd 187) 36 = .ok (.goto 4, 3) := by decide +kernel
theorem dM_isSo_39 : decode (hr_cd 187) 39 = .ok (.iconst 0, 1) := by decide +kernel
theorem dM_isSo_40 : decode (hr_cd 187) 40 = .ok (.istore_n 2, 1) := by decide +kernel
theorem dM_isSo_41 : decode (hr_cd 187) 41 = .ok (.aload_n 0, 1) := by decide +kernel
theorem dM_isSo_42 : decode (hr_cd 187) 42 = .ok (.invokevirtual 95, 3) := by decide +kernel
theorem dM_isSo_45 : decode (hr_cd 187) 45 = .ok (.iinc 3 1, 3) := by decide +kernel
theorem dM_isSo_48 : decode (hr_cd 187) 48 = .ok (.goto (-44), 3) := by decide +kernel
theorem dM_isSo_51 : decode (hr_cd 187) 51 = .ok (.iload_n 2, 1) := by decide +kernel
theorem dM_isSo_52 : decode (hr_cd 187) 52 = .ok (.ireturn, 1) := by decide +kernel
theorem dM_image_0 : decode (hr_cd 188) 0 = .ok (.iconst 0, 1) := by decide +kernel
theorem dM_image_1 : decode (hr_cd 188) 1 = .ok (.istore_n 1, 1) := by decide +kernel
theorem dM_image_2 : decode (hr_cd 188) 2 = .ok (.iload_n 1, 1) := by decide +kernel
theorem dM_image_3 : decode (hr_cd 188) 3 = .ok (.bipush 46, 2) := by decide +kernel
theorem dM_image_5 : decode (hr_cd 188) 5 = .ok (.if_icmp .ge 21, 3) := by decide +kernel
theorem dM_image_8 : decode (hr_cd 188) 8 = .ok (.aload_n 0, 1) := by decide +kernel
theorem dM_image_9 : decode (hr_cd 188) 9 = .ok (.getfield 13, 3) := by decide +kernel
theorem dM_image_12 : decode (hr_cd 188) 12 = .ok (.iload_n 1, 1) := by decide +kernel
theorem dM_image_13 : decode (hr_cd 188) 13 = .ok (.aload_n 0, 1) := by decide +kernel
theorem dM_image_14 : decode (hr_cd 188) 14 = .ok (.getfield 9, 3) := by decide +kernel
theorem dM_image_17 : decode (hr_cd 188) 17 = .ok (.iload_n 1, 1) := by decide +kernel
theorem dM_image_18 : decode (hr_cd 188) 18 = .ok (.iaload, 1) := by decide +kernel
theorem dM_image_19 : decode (hr_cd 188) 19 = .ok (.iastore, 1) := by decide +kernel
theorem dM_image_20 : decode (hr_cd 188) 20 = .ok (.iinc 1 1, 3) := by decide +kernel
theorem dM_image_23 : decode (hr_cd 188) 23 = .ok (.goto (-21), 3) := by decide +kernel
theorem dM_image_26 : decode (hr_cd 188) 26 = .ok (.aload_n 0, 1) := by decide +kernel
theorem dM_image_27 : decode (hr_cd 188) 27 = .ok (.iconst 1, 1) := by decide +kernel
theorem dM_image_28 : decode (hr_cd 188) 28 = .ok (.putfield 221, 3) := by decide +kernel
theorem dM_image_31 : decode (hr_cd 188) 31 = .ok (.iconst 1, 1) := by decide +kernel
theorem dM_image_32 : decode (hr_cd 188) 32 = .ok (.ireturn, 1) := by decide +kernel
theorem dM_undo_0 : decode (hr_cd 189) 0 = .ok (.aload_n 0, 1) := by decide +kernel
theorem dM_undo_1 : decode (hr_cd 189) 1 = .ok (.getfield 221, 3) := by decide +kernel
theorem dM_undo_4 : decode (hr_cd 189) 4 = .ok (.ifCond .ne 9, 3) := by decide +kernel
theorem dM_undo_7 : decode (hr_cd 189) 7 = .ok (.aload_n 0, 1) := by decide +kernel
theorem dM_undo_8 : decode (hr_cd 189) 8 = .ok (.iconst 3, 1) := by decide +kernel
theorem dM_undo_9 : decode (hr_cd 189) 9 = .ok (.invokevirtual 98, 3) := by decide +kernel
theorem dM_undo_12 : decode (hr_cd 189) 12 = .ok (.ireturn, 1) := by decide +kernel
theorem dM_undo_13 : decode (hr_cd 189) 13 = .ok (.iconst 0, 1) := by decide +kernel
theorem dM_undo_14 : decode (hr_cd 189) 14 = .ok (.istore_n 1, 1) := by decide +kernel
theorem dM_undo_15 : decode (hr_cd 189) 15 = .ok (.iload_n 1, 1) := by decide +kernel
theorem dM_undo_16 : decode (hr_cd 189) 16 = .ok (.bipush 46, 2) := by decide +kernel
theorem dM_undo_18 : decode (hr_cd 189) 18 = .ok (.if_icmp .ge 21, 3) := by decide +kernel
theorem dM_undo_21 : decode (hr_cd 189) 21 = .ok (.aload_n 0, 1) := by decide +kernel
theorem dM_undo_22 : decode (hr_cd 189) 22 = .ok (.getfield 9, 3) := by decide +kernel
theorem dM_undo_25 : decode (hr_cd 189) 25 = .ok (.iload_n 1, 1) := by decide +kernel
theorem dM_undo_26 : decode (hr_cd 189) 26 = .ok (.aload_n 0, 1) := by decide +kernel
theorem dM_undo_27 : decode (hr_cd 189) 27 = .ok (.getfield 13, 3) := by decide +kernel
theorem dM_undo_30 : decode (hr_cd 189) 30 = .ok (.iload_n 1, 1) := by decide +kernel
theorem dM_undo_31 : decode (hr_cd 189) 31 = .ok (.iaload, 1) := by decide +kernel
theorem dM_undo_32 : decode (hr_cd 189) 32 = .ok (.iastore, 1) := by decide +kernel
theorem dM_undo_33 : decode (hr_cd 189) 33 = .ok (.iinc 1 1, 3) := by decide +kernel
theorem dM_undo_36 : decode (hr_cd 189) 36 = .ok (.goto (-21), 3) := by decide +kernel
theorem dM_undo_39 : decode (hr_cd 189) 39 = .ok (.aload_n 0, 1) := by decide +kernel
theorem dM_undo_40 : decode (hr_cd 189) 40 = .ok (.getfield 9, 3) := by decide +kernel
theorem dM_undo_43 : decode (hr_cd 189) 43 = .ok (.iconst 5, 1) := by decide +kernel
theorem dM_undo_44 : decode (hr_cd 189) 44 = .ok (.iaload, 1) := by decide +kernel
theorem dM_undo_45 : decode (hr_cd 189) 45 = .ok (.ireturn, 1) := by decide +kernel
theorem dM_tear_0 : decode (hr_cd 190) 0 = .ok (.aload_n 0, 1) := by decide +kernel
theorem dM_tear_1 : decode (hr_cd 190) 1 = .ok (.getfield 221, 3) := by decide +kernel
theorem dM_tear_4 : decode (hr_cd 190) 4 = .ok (.ifCond .eq 7, 3) := by decide +kernel
theorem dM_tear_7 : decode (hr_cd 190) 7 = .ok (.iconst 1, 1) := by decide +kernel
theorem dM_tear_8 : decode (hr_cd 190) 8 = .ok (.goto 4, 3) := by decide +kernel
theorem dM_tear_11 : decode (hr_cd 190) 11 = .ok (.iconst 0, 1) := by decide +kernel
theorem dM_tear_12 : decode (hr_cd 190) 12 = .ok (.istore_n 1, 1) := by decide +kernel
theorem dM_tear_13 : decode (hr_cd 190) 13 = .ok (.aload_n 0, 1) := by decide +kernel
theorem dM_tear_14 : decode (hr_cd 190) 14 = .ok (.iconst 0, 1) := by decide +kernel
theorem dM_tear_15 : decode (hr_cd 190) 15 = .ok (.putfield 221, 3) := by decide +kernel
theorem dM_tear_18 : decode (hr_cd 190) 18 = .ok (.iload_n 1, 1) := by decide +kernel
theorem dM_tear_19 : decode (hr_cd 190) 19 = .ok (.ireturn, 1) := by decide +kernel
theorem dM_count_0 : decode (hr_cd 191) 0 = .ok (.iload_n 1, 1) := by decide +kernel
theorem dM_count_1 : decode (hr_cd 191) 1 = .ok (.tableswitch 55 0 3 #[31, 38, 43, 49], 31) := by decide +kernel
theorem dM_count_32 : decode (hr_cd 191) 32 = .ok (.aload_n 0, 1) := by decide +kernel
theorem dM_count_33 : decode (hr_cd 191) 33 = .ok (.getfield 9, 3) := by decide +kernel
theorem dM_count_36 : decode (hr_cd 191) 36 = .ok (.iconst 5, 1) := by decide +kernel
theorem dM_count_37 : decode (hr_cd 191) 37 = .ok (.iaload, 1) := by decide +kernel
theorem dM_count_38 : decode (hr_cd 191) 38 = .ok (.ireturn, 1) := by decide +kernel
theorem dM_count_39 : decode (hr_cd 191) 39 = .ok (.aload_n 0, 1) := by decide +kernel
theorem dM_count_40 : decode (hr_cd 191) 40 = .ok (.getfield 147, 3) := by decide +kernel
theorem dM_count_43 : decode (hr_cd 191) 43 = .ok (.ireturn, 1) := by decide +kernel
theorem dM_count_44 : decode (hr_cd 191) 44 = .ok (.aload_n 0, 1) := by decide +kernel
theorem dM_count_45 : decode (hr_cd 191) 45 = .ok (.iconst 4, 1) := by decide +kernel
theorem dM_count_46 : decode (hr_cd 191) 46 = .ok (.invokevirtual 225, 3) := by decide +kernel
theorem dM_count_49 : decode (hr_cd 191) 49 = .ok (.ireturn, 1) := by decide +kernel
theorem dM_count_50 : decode (hr_cd 191) 50 = .ok (.aload_n 0, 1) := by decide +kernel
theorem dM_count_51 : decode (hr_cd 191) 51 = .ok (.iconst 2, 1) := by decide +kernel
theorem dM_count_52 : decode (hr_cd 191) 52 = .ok (.invokevirtual 225, 3) := by decide +kernel
theorem dM_count_55 : decode (hr_cd 191) 55 = .ok (.ireturn, 1) := by decide +kernel
theorem dM_count_56 : decode (hr_cd 191) 56 = .ok (.aload_n 0, 1) := by decide +kernel
theorem dM_count_57 : decode (hr_cd 191) 57 = .ok (.iconst 0, 1) := by decide +kernel
theorem dM_count_58 : decode (hr_cd 191) 58 = .ok (.invokevirtual 98, 3) := by decide +kernel
theorem dM_count_61 : decode (hr_cd 191) 61 = .ok (.ireturn, 1) := by decide +kernel
theorem dM_sumOf_0 : decode (hr_cd 192) 0 = .ok (.iconst 0, 1) := by decide +kernel
theorem dM_sumOf_1 : decode (hr_cd 192) 1 = .ok (.istore_n 2, 1) := by decide +kernel
theorem dM_sumOf_2 : decode (hr_cd 192) 2 = .ok (.iconst 0, 1) := by decide +kernel
theorem dM_sumOf_3 : decode (hr_cd 192) 3 = .ok (.istore_n 3, 1) := by decide +kernel
theorem dM_sumOf_4 : decode (hr_cd 192) 4 = .ok (.iload_n 3, 1) := by decide +kernel
theorem dM_sumOf_5 : decode (hr_cd 192) 5 = .ok (.aload_n 0, 1) := by decide +kernel
theorem dM_sumOf_6 : decode (hr_cd 192) 6 = .ok (.getfield 9, 3) := by decide +kernel
theorem dM_sumOf_9 : decode (hr_cd 192) 9 = .ok (.iconst 5, 1) := by decide +kernel
theorem dM_sumOf_10 : decode (hr_cd 192) 10 = .ok (.iaload, 1) := by decide +kernel
theorem dM_sumOf_11 : decode (hr_cd 192) 11 = .ok (.if_icmp .ge 18, 3) := by decide +kernel
theorem dM_sumOf_14 : decode (hr_cd 192) 14 = .ok (.iload_n 2, 1) := by decide +kernel
theorem dM_sumOf_15 : decode (hr_cd 192) 15 = .ok (.aload_n 0, 1) := by decide +kernel
theorem dM_sumOf_16 : decode (hr_cd 192) 16 = .ok (.iload_n 3, 1) := by decide +kernel
theorem dM_sumOf_17 : decode (hr_cd 192) 17 = .ok (.iload_n 1, 1) := by decide +kernel
theorem dM_sumOf_18 : decode (hr_cd 192) 18 = .ok (.invokevirtual 53, 3) := by decide +kernel
theorem dM_sumOf_21 : decode (hr_cd 192) 21 = .ok (.iadd, 1) := by decide +kernel
theorem dM_sumOf_22 : decode (hr_cd 192) 22 = .ok (.istore_n 2, 1) := by decide +kernel
theorem dM_sumOf_23 : decode (hr_cd 192) 23 = .ok (.iinc 3 1, 3) := by decide +kernel
theorem dM_sumOf_26 : decode (hr_cd 192) 26 = .ok (.goto (-22), 3) := by decide +kernel
theorem dM_sumOf_29 : decode (hr_cd 192) 29 = .ok (.iload_n 2, 1) := by decide +kernel
theorem dM_sumOf_30 : decode (hr_cd 192) 30 = .ok (.ireturn, 1) := by decide +kernel
theorem dM_status_0 : decode (hr_cd 193) 0 = .ok (.iload_n 1, 1) := by decide +kernel
theorem dM_status_1 : decode (hr_cd 193) 1 = .ok (.iconst (-1), 1) := by decide +kernel
theorem dM_status_2 : decode (hr_cd 193) 2 = .ok (.bipush 6, 2) := by decide +kernel
theorem dM_status_4 : decode (hr_cd 193) 4 = .ok (.invokestatic 49, 3) := by decide +kernel
theorem dM_status_7 : decode (hr_cd 193) 7 = .ok (.ifCond .ne 9, 3) := by decide +kernel
theorem dM_status_10 : decode (hr_cd 193) 10 = .ok (.aload_n 0, 1) := by decide +kernel
theorem dM_status_11 : decode (hr_cd 193) 11 = .ok (.iconst 0, 1) := by decide +kernel
theorem dM_status_12 : decode (hr_cd 193) 12 = .ok (.invokevirtual 98, 3) := by decide +kernel
theorem dM_status_15 : decode (hr_cd 193) 15 = .ok (.ireturn, 1) := by decide +kernel
theorem dM_status_16 : decode (hr_cd 193) 16 = .ok (.iconst 0, 1) := by decide +kernel
theorem dM_status_17 : decode (hr_cd 193) 17 = .ok (.istore_n 2, 1) := by decide +kernel
theorem dM_status_18 : decode (hr_cd 193) 18 = .ok (.iconst 0, 1) := by decide +kernel
theorem dM_status_19 : decode (hr_cd 193) 19 = .ok (.istore_n 3, 1) := by decide +kernel
theorem dM_status_20 : decode (hr_cd 193) 20 = .ok (.iload_n 3, 1) := by decide +kernel
theorem dM_status_21 : decode (hr_cd 193) 21 = .ok (.bipush 7, 2) := by decide +kernel
theorem dM_status_23 : decode (hr_cd 193) 23 = .ok (.if_icmp .ge 32, 3) := by decide +kernel
theorem dM_status_26 : decode (hr_cd 193) 26 = .ok (.iload_n 2, 1) := by decide +kernel
theorem dM_status_27 : decode (hr_cd 193) 27 = .ok (.iload_n 1, 1) := by decide +kernel
theorem dM_status_28 : decode (hr_cd 193) 28 = .ok (.iconst (-1), 1) := by decide +kernel
theorem dM_status_29 : decode (hr_cd 193) 29 = .ok (.if_icmp .eq 8, 3) := by decide +kernel
theorem dM_status_32 : decode (hr_cd 193) 32 = .ok (.iload_n 1, 1) := by decide +kernel
theorem dM_status_33 : decode (hr_cd 193) 33 = .ok (.iload_n 3, 1) := by decide +kernel
theorem dM_status_34 : decode (hr_cd 193) 34 = .ok (.if_icmp .ne 12, 3) := by decide +kernel
theorem dM_status_37 : decode (hr_cd 193) 37 = .ok (.aload_n 0, 1) := by decide +kernel
theorem dM_status_38 : decode (hr_cd 193) 38 = .ok (.getfield 19, 3) := by decide +kernel
theorem dM_status_41 : decode (hr_cd 193) 41 = .ok (.iload_n 3, 1) := by decide +kernel
theorem dM_status_42 : decode (hr_cd 193) 42 = .ok (.iaload, 1) := by decide +kernel
theorem dM_status_43 : decode (hr_cd 193) 43 = .ok (.goto 4, 3) := by decide +kernel
theorem dM_status_46 : decode (hr_cd 193) 46 = .ok (.iconst 0, 1) := by decide +kernel
theorem dM_status_47 : decode (hr_cd 193) 47 = .ok (.iadd, 1) := by decide +kernel
theorem dM_status_48 : decode (hr_cd 193) 48 = .ok (.istore_n 2, 1) := by decide +kernel
theorem dM_status_49 : decode (hr_cd 193) 49 = .ok (.iinc 3 1, 3) := by decide +kernel
theorem dM_status_52 : decode (hr_cd 193) 52 = .ok (.goto (-32), 3) := by decide +kernel
theorem dM_status_55 : decode (hr_cd 193) 55 = .ok (.iload_n 2, 1) := by decide +kernel
theorem dM_status_56 : decode (hr_cd 193) 56 = .ok (.ireturn, 1) := by decide +kernel
