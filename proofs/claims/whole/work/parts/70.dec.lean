theorem dXi_0 : decode (hr_cd 0) 0 = .ok (.aload_n 0, 1) := by decide +kernel
theorem dXi_1 : decode (hr_cd 0) 1 = .ok (.invokespecial 1, 3) := by decide +kernel
theorem dXi_4 : decode (hr_cd 0) 4 = .ok (.aload_n 0, 1) := by decide +kernel
theorem dXi_5 : decode (hr_cd 0) 5 = .ok (.new 7, 3) := by decide +kernel
theorem dXi_8 : decode (hr_cd 0) 8 = .ok (.dup, 1) := by decide +kernel
theorem dXi_9 : decode (hr_cd 0) 9 = .ok (.invokespecial 9, 3) := by decide +kernel
theorem dXi_12 : decode (hr_cd 0) 12 = .ok (.putfield 10, 3) := by decide +kernel
theorem dXi_15 : decode (hr_cd 0) 15 = .ok (.aload_n 0, 1) := by decide +kernel
theorem dXi_16 : decode (hr_cd 0) 16 = .ok (.new 7, 3) := by decide +kernel
theorem dXi_19 : decode (hr_cd 0) 19 = .ok (.dup, 1) := by decide +kernel
theorem dXi_20 : decode (hr_cd 0) 20 = .ok (.invokespecial 9, 3) := by decide +kernel
theorem dXi_23 : decode (hr_cd 0) 23 = .ok (.putfield 16, 3) := by decide +kernel
theorem dXi_26 : decode (hr_cd 0) 26 = .ok (.aload_n 0, 1) := by decide +kernel
theorem dXi_27 : decode (hr_cd 0) 27 = .ok (.new 7, 3) := by decide +kernel
theorem dXi_30 : decode (hr_cd 0) 30 = .ok (.dup, 1) := by decide +kernel
theorem dXi_31 : decode (hr_cd 0) 31 = .ok (.invokespecial 9, 3) := by decide +kernel
theorem dXi_34 : decode (hr_cd 0) 34 = .ok (.putfield 19, 3) := by decide +kernel
theorem dXi_37 : decode (hr_cd 0) 37 = .ok (.aload_n 0, 1) := by decide +kernel
theorem dXi_38 : decode (hr_cd 0) 38 = .ok (.iconst 0, 1) := by decide +kernel
theorem dXi_39 : decode (hr_cd 0) 39 = .ok (.putfield 22, 3) := by decide +kernel
theorem dXi_42 : decode (hr_cd 0) 42 = .ok (.aload_n 0, 1) := by decide +kernel
theorem dXi_43 : decode (hr_cd 0) 43 = .ok (.new 26, 3) := by decide +kernel
theorem dXi_46 : decode (hr_cd 0) 46 = .ok (.dup, 1) := by decide +kernel
theorem dXi_47 : decode (hr_cd 0) 47 = .ok (.invokespecial 28, 3) := by decide +kernel
theorem dXi_50 : decode (hr_cd 0) 50 = .ok (.putfield 29, 3) := by decide +kernel
theorem dXi_53 : decode (hr_cd 0) 53 = .ok (.aload_n 0, 1) := by decide +kernel
theorem dXi_54 : decode (hr_cd 0) 54 = .ok (.new 33, 3) := by decide +kernel
theorem dXi_57 : decode (hr_cd 0) 57 = .ok (.dup, 1) := by decide +kernel
theorem dXi_58 : decode (hr_cd 0) 58 = .ok (.invokespecial 35, 3) := by decide +kernel
theorem dXi_61 : decode (hr_cd 0) 61 = .ok (.putfield 36, 3) := by decide +kernel
theorem dXi_64 : decode (hr_cd 0) 64 = .ok (.aload_n 0, 1) := by decide +kernel
theorem dXi_65 : decode (hr_cd 0) 65 = .ok (.iconst 4, 1) := by decide +kernel
theorem dXi_66 : decode (hr_cd 0) 66 = .ok (.anewarray 40, 3) := by decide +kernel
theorem dXi_69 : decode (hr_cd 0) 69 = .ok (.putfield 42, 3) := by decide +kernel
theorem dXi_72 : decode (hr_cd 0) 72 = .ok (.iconst 0, 1) := by decide +kernel
theorem dXi_73 : decode (hr_cd 0) 73 = .ok (.istore_n 1, 1) := by decide +kernel
theorem dXi_74 : decode (hr_cd 0) 74 = .ok (.iload_n 1, 1) := by decide +kernel
theorem dXi_75 : decode (hr_cd 0) 75 = .ok (.iconst 4, 1) := by decide +kernel
theorem dXi_76 : decode (hr_cd 0) 76 = .ok (.if_icmp .ge 22, 3) := by decide +kernel
theorem dXi_79 : decode (hr_cd 0) 79 = .ok (.aload_n 0, 1) := by decide +kernel
theorem dXi_80 : decode (hr_cd 0) 80 = .ok (.getfield 42, 3) := by decide +kernel
theorem dXi_83 : decode (hr_cd 0) 83 = .ok (.iload_n 1, 1) := by decide +kernel
theorem dXi_84 : decode (hr_cd 0) 84 = .ok (.new 40, 3) := by decide +kernel
theorem dXi_87 : decode (hr_cd 0) 87 = .ok (.dup, 1) := by decide +kernel
theorem dXi_88 : decode (hr_cd 0) 88 = .ok (.invokespecial 46, 3) := by decide +kernel
theorem dXi_91 : decode (hr_cd 0) 91 = .ok (.aastore, 1) := by decide +kernel
theorem dXi_92 : decode (hr_cd 0) 92 = .ok (.iinc 1 1, 3) := by decide +kernel
theorem dXi_95 : decode (hr_cd 0) 95 = .ok (.goto (-21), 3) := by decide +kernel
theorem dXi_98 : decode (hr_cd 0) 98 = .ok (.aload_n 0, 1) := by decide +kernel
theorem dXi_99 : decode (hr_cd 0) 99 = .ok (.bipush 7, 2) := by decide +kernel
theorem dXi_101 : decode (hr_cd 0) 101 = .ok (.newarray .int, 2) := by decide +kernel
theorem dXi_103 : decode (hr_cd 0) 103 = .ok (.putfield 47, 3) := by decide +kernel
theorem dXi_106 : decode (hr_cd 0) 106 = .ok (.return_, 1) := by decide +kernel
theorem dSi_0 : decode (hr_cd 1) 0 = .ok (.aload_n 0, 1) := by decide +kernel
theorem dSi_1 : decode (hr_cd 1) 1 = .ok (.invokespecial 3, 3) := by decide +kernel
theorem dSi_4 : decode (hr_cd 1) 4 = .ok (.aload_n 0, 1) := by decide +kernel
theorem dSi_5 : decode (hr_cd 1) 5 = .ok (.iconst 0, 1) := by decide +kernel
theorem dSi_6 : decode (hr_cd 1) 6 = .ok (.putfield 9, 3) := by decide +kernel
theorem dSi_9 : decode (hr_cd 1) 9 = .ok (.aload_n 0, 1) := by decide +kernel
theorem dSi_10 : decode (hr_cd 1) 10 = .ok (.iconst 0, 1) := by decide +kernel
theorem dSi_11 : decode (hr_cd 1) 11 = .ok (.putfield 15, 3) := by decide +kernel
theorem dSi_14 : decode (hr_cd 1) 14 = .ok (.aload_n 0, 1) := by decide +kernel
theorem dSi_15 : decode (hr_cd 1) 15 = .ok (.iconst 5, 1) := by decide +kernel
theorem dSi_16 : decode (hr_cd 1) 16 = .ok (.putfield 18, 3) := by decide +kernel
theorem dSi_19 : decode (hr_cd 1) 19 = .ok (.aload_n 0, 1) := by decide +kernel
theorem dSi_20 : decode (hr_cd 1) 20 = .ok (.iconst 0, 1) := by decide +kernel
theorem dSi_21 : decode (hr_cd 1) 21 = .ok (.putfield 21, 3) := by decide +kernel
theorem dSi_24 : decode (hr_cd 1) 24 = .ok (.aload_n 0, 1) := by decide +kernel
theorem dSi_25 : decode (hr_cd 1) 25 = .ok (.iconst 0, 1) := by decide +kernel
theorem dSi_26 : decode (hr_cd 1) 26 = .ok (.putfield 24, 3) := by decide +kernel
theorem dSi_29 : decode (hr_cd 1) 29 = .ok (.aload_n 0, 1) := by decide +kernel
theorem dSi_30 : decode (hr_cd 1) 30 = .ok (.iconst 0, 1) := by decide +kernel
theorem dSi_31 : decode (hr_cd 1) 31 = .ok (.putfield 27, 3) := by decide +kernel
theorem dSi_34 : decode (hr_cd 1) 34 = .ok (.aload_n 0, 1) := by decide +kernel
theorem dSi_35 : decode (hr_cd 1) 35 = .ok (.bipush 8, 2) := by decide +kernel
theorem dSi_37 : decode (hr_cd 1) 37 = .ok (.anewarray 30, 3) := by decide +kernel
theorem dSi_40 : decode (hr_cd 1) 40 = .ok (.putfield 32, 3) := by decide +kernel
theorem dSi_43 : decode (hr_cd 1) 43 = .ok (.iconst 0, 1) := by decide +kernel
theorem dSi_44 : decode (hr_cd 1) 44 = .ok (.istore_n 1, 1) := by decide +kernel
theorem dSi_45 : decode (hr_cd 1) 45 = .ok (.iload_n 1, 1) := by decide +kernel
theorem dSi_46 : decode (hr_cd 1) 46 = .ok (.bipush 8, 2) := by decide +kernel
theorem dSi_48 : decode (hr_cd 1) 48 = .ok (.if_icmp .ge 22, 3) := by decide +kernel
theorem dSi_51 : decode (hr_cd 1) 51 = .ok (.aload_n 0, 1) := by decide +kernel
theorem dSi_52 : decode (hr_cd 1) 52 = .ok (.getfield 32, 3) := by decide +kernel
theorem dSi_55 : decode (hr_cd 1) 55 = .ok (.iload_n 1, 1) := by decide +kernel
theorem dSi_56 : decode (hr_cd 1) 56 = .ok (.new 30, 3) := by decide +kernel
theorem dSi_59 : decode (hr_cd 1) 59 = .ok (.dup, 1) := by decide +kernel
theorem dSi_60 : decode (hr_cd 1) 60 = .ok (.invokespecial 36, 3) := by decide +kernel
theorem dSi_63 : decode (hr_cd 1) 63 = .ok (.aastore, 1) := by decide +kernel
theorem dSi_64 : decode (hr_cd 1) 64 = .ok (.iinc 1 1, 3) := by decide +kernel
theorem dSi_67 : decode (hr_cd 1) 67 = .ok (.goto (-22), 3) := by decide +kernel
theorem dSi_70 : decode (hr_cd 1) 70 = .ok (.return_, 1) := by decide +kernel
theorem dRi_0 : decode (hr_cd 2) 0 = .ok (.aload_n 0, 1) := by decide +kernel
theorem dRi_1 : decode (hr_cd 2) 1 = .ok (.invokespecial 3, 3) := by decide +kernel
theorem dRi_4 : decode (hr_cd 2) 4 = .ok (.return_, 1) := by decide +kernel
theorem dCi_0 : decode (hr_cd 3) 0 = .ok (.aload_n 0, 1) := by decide +kernel
theorem dCi_1 : decode (hr_cd 3) 1 = .ok (.invokespecial 3, 3) := by decide +kernel
theorem dCi_4 : decode (hr_cd 3) 4 = .ok (.return_, 1) := by decide +kernel
theorem dTi_0 : decode (hr_cd 4) 0 = .ok (.aload_n 0, 1) := by decide +kernel
theorem dTi_1 : decode (hr_cd 4) 1 = .ok (.invokespecial 3, 3) := by decide +kernel
theorem dTi_4 : decode (hr_cd 4) 4 = .ok (.aload_n 0, 1) := by decide +kernel
theorem dTi_5 : decode (hr_cd 4) 5 = .ok (.bipush 120, 2) := by decide +kernel
theorem dTi_7 : decode (hr_cd 4) 7 = .ok (.newarray .byte, 2) := by decide +kernel
theorem dTi_9 : decode (hr_cd 4) 9 = .ok (.putfield 9, 3) := by decide +kernel
theorem dTi_12 : decode (hr_cd 4) 12 = .ok (.aload_n 0, 1) := by decide +kernel
theorem dTi_13 : decode (hr_cd 4) 13 = .ok (.iconst 0, 1) := by decide +kernel
theorem dTi_14 : decode (hr_cd 4) 14 = .ok (.putfield 15, 3) := by decide +kernel
theorem dTi_17 : decode (hr_cd 4) 17 = .ok (.return_, 1) := by decide +kernel
theorem dHi_0 : decode (hr_cd 5) 0 = .ok (.aload_n 0, 1) := by decide +kernel
theorem dHi_1 : decode (hr_cd 5) 1 = .ok (.invokespecial 3, 3) := by decide +kernel
theorem dHi_4 : decode (hr_cd 5) 4 = .ok (.aload_n 0, 1) := by decide +kernel
theorem dHi_5 : decode (hr_cd 5) 5 = .ok (.iconst 0, 1) := by decide +kernel
theorem dHi_6 : decode (hr_cd 5) 6 = .ok (.putfield 9, 3) := by decide +kernel
theorem dHi_9 : decode (hr_cd 5) 9 = .ok (.aload_n 0, 1) := by decide +kernel
theorem dHi_10 : decode (hr_cd 5) 10 = .ok (.iconst 0, 1) := by decide +kernel
theorem dHi_11 : decode (hr_cd 5) 11 = .ok (.putfield 15, 3) := by decide +kernel
theorem dHi_14 : decode (hr_cd 5) 14 = .ok (.aload_n 0, 1) := by decide +kernel
theorem dHi_15 : decode (hr_cd 5) 15 = .ok (.bipush 40, 2) := by decide +kernel
theorem dHi_17 : decode (hr_cd 5) 17 = .ok (.newarray .long, 2) := by decide +kernel
theorem dHi_19 : decode (hr_cd 5) 19 = .ok (.putfield 18, 3) := by decide +kernel
theorem dHi_22 : decode (hr_cd 5) 22 = .ok (.return_, 1) := by decide +kernel
theorem dMi_0 : decode (hr_cd 115) 0 = .ok (.aload_n 0, 1) := by decide +kernel
theorem dMi_1 : decode (hr_cd 115) 1 = .ok (.invokespecial 1, 3) := by decide +kernel
theorem dMi_4 : decode (hr_cd 115) 4 = .ok (.aload_n 0, 1) := by decide +kernel
theorem dMi_5 : decode (hr_cd 115) 5 = .ok (.bipush 46, 2) := by decide +kernel
theorem dMi_7 : decode (hr_cd 115) 7 = .ok (.newarray .int, 2) := by decide +kernel
theorem dMi_9 : decode (hr_cd 115) 9 = .ok (.putfield 9, 3) := by decide +kernel
theorem dMi_12 : decode (hr_cd 115) 12 = .ok (.aload_n 0, 1) := by decide +kernel
theorem dMi_13 : decode (hr_cd 115) 13 = .ok (.bipush 46, 2) := by decide +kernel
theorem dMi_15 : decode (hr_cd 115) 15 = .ok (.newarray .int, 2) := by decide +kernel
theorem dMi_17 : decode (hr_cd 115) 17 = .ok (.putfield 13, 3) := by decide +kernel
theorem dMi_20 : decode (hr_cd 115) 20 = .ok (.aload_n 0, 1) := by decide +kernel
theorem dMi_21 : decode (hr_cd 115) 21 = .ok (.bipush 46, 2) := by decide +kernel
theorem dMi_23 : decode (hr_cd 115) 23 = .ok (.newarray .int, 2) := by decide +kernel
theorem dMi_25 : decode (hr_cd 115) 25 = .ok (.putfield 16, 3) := by decide +kernel
theorem dMi_28 : decode (hr_cd 115) 28 = .ok (.aload_n 0, 1) := by decide +kernel
theorem dMi_29 : decode (hr_cd 115) 29 = .ok (.bipush 7, 2) := by decide +kernel
theorem dMi_31 : decode (hr_cd 115) 31 = .ok (.newarray .int, 2) := by decide +kernel
theorem dMi_33 : decode (hr_cd 115) 33 = .ok (.putfield 19, 3) := by decide +kernel
theorem dMi_36 : decode (hr_cd 115) 36 = .ok (.aload_n 0, 1) := by decide +kernel
theorem dMi_37 : decode (hr_cd 115) 37 = .ok (.bipush 120, 2) := by decide +kernel
theorem dMi_39 : decode (hr_cd 115) 39 = .ok (.newarray .int, 2) := by decide +kernel
theorem dMi_41 : decode (hr_cd 115) 41 = .ok (.putfield 22, 3) := by decide +kernel
theorem dMi_44 : decode (hr_cd 115) 44 = .ok (.aload_n 0, 1) := by decide +kernel
theorem dMi_45 : decode (hr_cd 115) 45 = .ok (.bipush 48, 2) := by decide +kernel
theorem dMi_47 : decode (hr_cd 115) 47 = .ok (.newarray .char, 2) := by decide +kernel
theorem dMi_331 : decode (hr_cd 115) 331 = .ok (.putfield 25, 3) := by decide +kernel
theorem dMi_334 : decode (hr_cd 115) 334 = .ok (.aload_n 0, 1) := by decide +kernel
theorem dMi_335 : decode (hr_cd 115) 335 = .ok (.bipush 32, 2) := by decide +kernel
theorem dMi_337 : decode (hr_cd 115) 337 = .ok (.newarray .char, 2) := by decide +kernel
theorem dMi_525 : decode (hr_cd 115) 525 = .ok (.putfield 29, 3) := by decide +kernel
theorem dMi_528 : decode (hr_cd 115) 528 = .ok (.aload_n 0, 1) := by decide +kernel
theorem dMi_529 : decode (hr_cd 115) 529 = .ok (.bipush 24, 2) := by decide +kernel
theorem dMi_531 : decode (hr_cd 115) 531 = .ok (.newarray .char, 2) := by decide +kernel
theorem dMi_671 : decode (hr_cd 115) 671 = .ok (.putfield 32, 3) := by decide +kernel
theorem dMi_674 : decode (hr_cd 115) 674 = .ok (.aload_n 0, 1) := by decide +kernel
theorem dMi_675 : decode (hr_cd 115) 675 = .ok (.iconst 4, 1) := by decide +kernel
theorem dMi_676 : decode (hr_cd 115) 676 = .ok (.newarray .int, 2) := by decide +kernel
theorem dMi_678 : decode (hr_cd 115) 678 = .ok (.putfield 35, 3) := by decide +kernel
theorem dMi_681 : decode (hr_cd 115) 681 = .ok (.aload_n 0, 1) := by decide +kernel
theorem dMi_682 : decode (hr_cd 115) 682 = .ok (.iconst 4, 1) := by decide +kernel
theorem dMi_683 : decode (hr_cd 115) 683 = .ok (.newarray .int, 2) := by decide +kernel
theorem dMi_685 : decode (hr_cd 115) 685 = .ok (.putfield 38, 3) := by decide +kernel
theorem dMi_688 : decode (hr_cd 115) 688 = .ok (.aload_n 0, 1) := by decide +kernel
theorem dMi_689 : decode (hr_cd 115) 689 = .ok (.sipush 160, 3) := by decide +kernel
theorem dMi_692 : decode (hr_cd 115) 692 = .ok (.newarray .long, 2) := by decide +kernel
theorem dMi_694 : decode (hr_cd 115) 694 = .ok (.putfield 41, 3) := by decide +kernel
theorem dMi_697 : decode (hr_cd 115) 697 = .ok (.aload_n 0, 1) := by decide +kernel
theorem dMi_698 : decode (hr_cd 115) 698 = .ok (.bipush 40, 2) := by decide +kernel
theorem dMi_700 : decode (hr_cd 115) 700 = .ok (.newarray .long, 2) := by decide +kernel
theorem dMi_702 : decode (hr_cd 115) 702 = .ok (.putfield 45, 3) := by decide +kernel
theorem dMi_705 : decode (hr_cd 115) 705 = .ok (.aload_n 0, 1) := by decide +kernel
theorem dMi_706 : decode (hr_cd 115) 706 = .ok (.getfield 9, 3) := by decide +kernel
theorem dMi_709 : decode (hr_cd 115) 709 = .ok (.iconst 2, 1) := by decide +kernel
theorem dMi_710 : decode (hr_cd 115) 710 = .ok (.iconst 5, 1) := by decide +kernel
theorem dMi_711 : decode (hr_cd 115) 711 = .ok (.iastore, 1) := by decide +kernel
theorem dMi_712 : decode (hr_cd 115) 712 = .ok (.return_, 1) := by decide +kernel
