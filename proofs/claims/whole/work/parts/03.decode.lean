theorem dX0_init_0 : decode cX0_init 0 = .ok (.aload_n 0, 1) := by decide +kernel
theorem dX0_init_1 : decode cX0_init 1 = .ok (.invokespecial 3, 3) := by decide +kernel
theorem dX0_init_4 : decode cX0_init 4 = .ok (.aload_n 0, 1) := by decide +kernel
theorem dX0_init_5 : decode cX0_init 5 = .ok (.iconst 0, 1) := by decide +kernel
theorem dX0_init_6 : decode cX0_init 6 = .ok (.putfield 9, 3) := by decide +kernel
theorem dX0_init_9 : decode cX0_init 9 = .ok (.aload_n 0, 1) := by decide +kernel
theorem dX0_init_10 : decode cX0_init 10 = .ok (.iconst 0, 1) := by decide +kernel
theorem dX0_init_11 : decode cX0_init 11 = .ok (.putfield 15, 3) := by decide +kernel
theorem dX0_init_14 : decode cX0_init 14 = .ok (.aload_n 0, 1) := by decide +kernel
theorem dX0_init_15 : decode cX0_init 15 = .ok (.bipush 10, 2) := by decide +kernel
theorem dX0_init_17 : decode cX0_init 17 = .ok (.newarray .int, 2) := by decide +kernel
theorem dX0_init_19 : decode cX0_init 19 = .ok (.putfield 18, 3) := by decide +kernel
theorem dX0_init_22 : decode cX0_init 22 = .ok (.iconst 0, 1) := by decide +kernel
theorem dX0_init_23 : decode cX0_init 23 = .ok (.istore_n 1, 1) := by decide +kernel
theorem dX0_init_24 : decode cX0_init 24 = .ok (.iload_n 1, 1) := by decide +kernel
theorem dX0_init_25 : decode cX0_init 25 = .ok (.aload_n 0, 1) := by decide +kernel
theorem dX0_init_26 : decode cX0_init 26 = .ok (.getfield 18, 3) := by decide +kernel
theorem dX0_init_29 : decode cX0_init 29 = .ok (.arraylength, 1) := by decide +kernel
theorem dX0_init_30 : decode cX0_init 30 = .ok (.if_icmp .ge 16, 3) := by decide +kernel
theorem dX0_init_33 : decode cX0_init 33 = .ok (.aload_n 0, 1) := by decide +kernel
theorem dX0_init_34 : decode cX0_init 34 = .ok (.getfield 18, 3) := by decide +kernel
theorem dX0_init_37 : decode cX0_init 37 = .ok (.iload_n 1, 1) := by decide +kernel
theorem dX0_init_38 : decode cX0_init 38 = .ok (.iconst (-1), 1) := by decide +kernel
theorem dX0_init_39 : decode cX0_init 39 = .ok (.iastore, 1) := by decide +kernel
theorem dX0_init_40 : decode cX0_init 40 = .ok (.iinc 1 1, 3) := by decide +kernel
theorem dX0_init_43 : decode cX0_init 43 = .ok (.goto (-19), 3) := by decide +kernel
theorem dX0_init_46 : decode cX0_init 46 = .ok (.return_, 1) := by decide +kernel
theorem dX0_copyFrom_0 : decode cX0_copyFrom 0 = .ok (.aload_n 1, 1) := by decide +kernel
theorem dX0_copyFrom_1 : decode cX0_copyFrom 1 = .ok (.ifnonnull 4, 3) := by decide +kernel
theorem dX0_copyFrom_4 : decode cX0_copyFrom 4 = .ok (.return_, 1) := by decide +kernel
theorem dX0_copyFrom_5 : decode cX0_copyFrom 5 = .ok (.aload_n 0, 1) := by decide +kernel
theorem dX0_copyFrom_6 : decode cX0_copyFrom 6 = .ok (.aload_n 1, 1) := by decide +kernel
theorem dX0_copyFrom_7 : decode cX0_copyFrom 7 = .ok (.getfield 9, 3) := by decide +kernel
theorem dX0_copyFrom_10 : decode cX0_copyFrom 10 = .ok (.putfield 9, 3) := by decide +kernel
theorem dX0_copyFrom_13 : decode cX0_copyFrom 13 = .ok (.aload_n 0, 1) := by decide +kernel
theorem dX0_copyFrom_14 : decode cX0_copyFrom 14 = .ok (.aload_n 1, 1) := by decide +kernel
theorem dX0_copyFrom_15 : decode cX0_copyFrom 15 = .ok (.getfield 15, 3) := by decide +kernel
theorem dX0_copyFrom_18 : decode cX0_copyFrom 18 = .ok (.putfield 15, 3) := by decide +kernel
theorem dX0_copyFrom_21 : decode cX0_copyFrom 21 = .ok (.iconst 0, 1) := by decide +kernel
theorem dX0_copyFrom_22 : decode cX0_copyFrom 22 = .ok (.istore_n 2, 1) := by decide +kernel
theorem dX0_copyFrom_23 : decode cX0_copyFrom 23 = .ok (.iload_n 2, 1) := by decide +kernel
theorem dX0_copyFrom_24 : decode cX0_copyFrom 24 = .ok (.aload_n 0, 1) := by decide +kernel
theorem dX0_copyFrom_25 : decode cX0_copyFrom 25 = .ok (.getfield 18, 3) := by decide +kernel
theorem dX0_copyFrom_28 : decode cX0_copyFrom 28 = .ok (.arraylength, 1) := by decide +kernel
theorem dX0_copyFrom_29 : decode cX0_copyFrom 29 = .ok (.if_icmp .ge 20, 3) := by decide +kernel
theorem dX0_copyFrom_32 : decode cX0_copyFrom 32 = .ok (.aload_n 0, 1) := by decide +kernel
theorem dX0_copyFrom_33 : decode cX0_copyFrom 33 = .ok (.getfield 18, 3) := by decide +kernel
theorem dX0_copyFrom_36 : decode cX0_copyFrom 36 = .ok (.iload_n 2, 1) := by decide +kernel
theorem dX0_copyFrom_37 : decode cX0_copyFrom 37 = .ok (.aload_n 1, 1) := by decide +kernel
theorem dX0_copyFrom_38 : decode cX0_copyFrom 38 = .ok (.iload_n 2, 1) := by decide +kernel
theorem dX0_copyFrom_39 : decode cX0_copyFrom 39 = .ok (.invokevirtual 22, 3) := by decide +kernel
theorem dX0_copyFrom_42 : decode cX0_copyFrom 42 = .ok (.iastore, 1) := by decide +kernel
theorem dX0_copyFrom_43 : decode cX0_copyFrom 43 = .ok (.iinc 2 1, 3) := by decide +kernel
theorem dX0_copyFrom_46 : decode cX0_copyFrom 46 = .ok (.goto (-23), 3) := by decide +kernel
theorem dX0_copyFrom_49 : decode cX0_copyFrom 49 = .ok (.return_, 1) := by decide +kernel
theorem dX0_wheelAt_0 : decode cX0_wheelAt 0 = .ok (.iload_n 1, 1) := by decide +kernel
theorem dX0_wheelAt_1 : decode cX0_wheelAt 1 = .ok (.ifCond .lt 21, 3) := by decide +kernel
theorem dX0_wheelAt_4 : decode cX0_wheelAt 4 = .ok (.iload_n 1, 1) := by decide +kernel
theorem dX0_wheelAt_5 : decode cX0_wheelAt 5 = .ok (.aload_n 0, 1) := by decide +kernel
theorem dX0_wheelAt_6 : decode cX0_wheelAt 6 = .ok (.getfield 18, 3) := by decide +kernel
theorem dX0_wheelAt_9 : decode cX0_wheelAt 9 = .ok (.arraylength, 1) := by decide +kernel
theorem dX0_wheelAt_10 : decode cX0_wheelAt 10 = .ok (.if_icmp .ge 12, 3) := by decide +kernel
theorem dX0_wheelAt_13 : decode cX0_wheelAt 13 = .ok (.aload_n 0, 1) := by decide +kernel
theorem dX0_wheelAt_14 : decode cX0_wheelAt 14 = .ok (.getfield 18, 3) := by decide +kernel
theorem dX0_wheelAt_17 : decode cX0_wheelAt 17 = .ok (.iload_n 1, 1) := by decide +kernel
theorem dX0_wheelAt_18 : decode cX0_wheelAt 18 = .ok (.iaload, 1) := by decide +kernel
theorem dX0_wheelAt_19 : decode cX0_wheelAt 19 = .ok (.goto 4, 3) := by decide +kernel
theorem dX0_wheelAt_22 : decode cX0_wheelAt 22 = .ok (.iconst (-1), 1) := by decide +kernel
theorem dX0_wheelAt_23 : decode cX0_wheelAt 23 = .ok (.ireturn, 1) := by decide +kernel
theorem dX0_putAt_0 : decode cX0_putAt 0 = .ok (.iload_n 1, 1) := by decide +kernel
theorem dX0_putAt_1 : decode cX0_putAt 1 = .ok (.ifCond .lt 19, 3) := by decide +kernel
theorem dX0_putAt_4 : decode cX0_putAt 4 = .ok (.iload_n 1, 1) := by decide +kernel
theorem dX0_putAt_5 : decode cX0_putAt 5 = .ok (.aload_n 0, 1) := by decide +kernel
theorem dX0_putAt_6 : decode cX0_putAt 6 = .ok (.getfield 18, 3) := by decide +kernel
theorem dX0_putAt_9 : decode cX0_putAt 9 = .ok (.arraylength, 1) := by decide +kernel
theorem dX0_putAt_10 : decode cX0_putAt 10 = .ok (.if_icmp .ge 10, 3) := by decide +kernel
theorem dX0_putAt_13 : decode cX0_putAt 13 = .ok (.aload_n 0, 1) := by decide +kernel
theorem dX0_putAt_14 : decode cX0_putAt 14 = .ok (.getfield 18, 3) := by decide +kernel
theorem dX0_putAt_17 : decode cX0_putAt 17 = .ok (.iload_n 1, 1) := by decide +kernel
theorem dX0_putAt_18 : decode cX0_putAt 18 = .ok (.iload_n 2, 1) := by decide +kernel
theorem dX0_putAt_19 : decode cX0_putAt 19 = .ok (.iastore, 1) := by decide +kernel
theorem dX0_putAt_20 : decode cX0_putAt 20 = .ok (.return_, 1) := by decide +kernel
theorem dX0_firstFreePlace_0 : decode cX0_firstFreePlace 0 = .ok (.iconst 0, 1) := by decide +kernel
theorem dX0_firstFreePlace_1 : decode cX0_firstFreePlace 1 = .ok (.istore_n 1, 1) := by decide +kernel
theorem dX0_firstFreePlace_2 : decode cX0_firstFreePlace 2 = .ok (.iload_n 1, 1) := by decide +kernel
theorem dX0_firstFreePlace_3 : decode cX0_firstFreePlace 3 = .ok (.bipush 10, 2) := by decide +kernel
theorem dX0_firstFreePlace_5 : decode cX0_firstFreePlace 5 = .ok (.if_icmp .ge 20, 3) := by decide +kernel
theorem dX0_firstFreePlace_8 : decode cX0_firstFreePlace 8 = .ok (.aload_n 0, 1) := by decide +kernel
theorem dX0_firstFreePlace_9 : decode cX0_firstFreePlace 9 = .ok (.iload_n 1, 1) := by decide +kernel
theorem dX0_firstFreePlace_10 : decode cX0_firstFreePlace 10 = .ok (.invokevirtual 22, 3) := by decide +kernel
theorem dX0_firstFreePlace_13 : decode cX0_firstFreePlace 13 = .ok (.iconst (-1), 1) := by decide +kernel
theorem dX0_firstFreePlace_14 : decode cX0_firstFreePlace 14 = .ok (.if_icmp .ne 5, 3) := by decide +kernel
theorem dX0_firstFreePlace_17 : decode cX0_firstFreePlace 17 = .ok (.iload_n 1, 1) := by decide +kernel
theorem dX0_firstFreePlace_18 : decode cX0_firstFreePlace 18 = .ok (.ireturn, 1) := by decide +kernel
theorem dX0_firstFreePlace_19 : decode cX0_firstFreePlace 19 = .ok (.iinc 1 1, 3) := by decide +kernel
theorem dX0_firstFreePlace_22 : decode cX0_firstFreePlace 22 = .ok (.goto (-20), 3) := by decide +kernel
theorem dX0_firstFreePlace_25 : decode cX0_firstFreePlace 25 = .ok (.iconst (-1), 1) := by decide +kernel
theorem dX0_firstFreePlace_26 : decode cX0_firstFreePlace 26 = .ok (.ireturn, 1) := by decide +kernel
theorem dX0_growthThatLeaps_0 : decode cX0_growthThatLeaps 0 = .ok (.aload_n 0, 1) := by decide +kernel
theorem dX0_growthThatLeaps_1 : decode cX0_growthThatLeaps 1 = .ok (.getfield 15, 3) := by decide +kernel
theorem dX0_growthThatLeaps_4 : decode cX0_growthThatLeaps 4 = .ok (.bipush 6, 2) := by decide +kernel
theorem dX0_growthThatLeaps_6 : decode cX0_growthThatLeaps 6 = .ok (.if_icmp .lt 7, 3) := by decide +kernel
theorem dX0_growthThatLeaps_9 : decode cX0_growthThatLeaps 9 = .ok (.iconst 3, 1) := by decide +kernel
theorem dX0_growthThatLeaps_10 : decode cX0_growthThatLeaps 10 = .ok (.goto 4, 3) := by decide +kernel
theorem dX0_growthThatLeaps_13 : decode cX0_growthThatLeaps 13 = .ok (.iconst 5, 1) := by decide +kernel
theorem dX0_growthThatLeaps_14 : decode cX0_growthThatLeaps 14 = .ok (.ireturn, 1) := by decide +kernel
theorem dX1_init_0 : decode cX1_init 0 = .ok (.aload_n 0, 1) := by decide +kernel
theorem dX1_init_1 : decode cX1_init 1 = .ok (.invokespecial 3, 3) := by decide +kernel
theorem dX1_init_4 : decode cX1_init 4 = .ok (.aload_n 0, 1) := by decide +kernel
theorem dX1_init_5 : decode cX1_init 5 = .ok (.iconst 0, 1) := by decide +kernel
theorem dX1_init_6 : decode cX1_init 6 = .ok (.putfield 9, 3) := by decide +kernel
theorem dX1_init_9 : decode cX1_init 9 = .ok (.aload_n 0, 1) := by decide +kernel
theorem dX1_init_10 : decode cX1_init 10 = .ok (.iconst 0, 1) := by decide +kernel
theorem dX1_init_11 : decode cX1_init 11 = .ok (.putfield 15, 3) := by decide +kernel
theorem dX1_init_14 : decode cX1_init 14 = .ok (.aload_n 0, 1) := by decide +kernel
theorem dX1_init_15 : decode cX1_init 15 = .ok (.iconst 0, 1) := by decide +kernel
theorem dX1_init_16 : decode cX1_init 16 = .ok (.putfield 18, 3) := by decide +kernel
theorem dX1_init_19 : decode cX1_init 19 = .ok (.aload_n 0, 1) := by decide +kernel
theorem dX1_init_20 : decode cX1_init 20 = .ok (.iconst 0, 1) := by decide +kernel
theorem dX1_init_21 : decode cX1_init 21 = .ok (.putfield 21, 3) := by decide +kernel
theorem dX1_init_24 : decode cX1_init 24 = .ok (.aload_n 0, 1) := by decide +kernel
theorem dX1_init_25 : decode cX1_init 25 = .ok (.iconst 0, 1) := by decide +kernel
theorem dX1_init_26 : decode cX1_init 26 = .ok (.putfield 24, 3) := by decide +kernel
theorem dX1_init_29 : decode cX1_init 29 = .ok (.aload_n 0, 1) := by decide +kernel
theorem dX1_init_30 : decode cX1_init 30 = .ok (.iconst 4, 1) := by decide +kernel
theorem dX1_init_31 : decode cX1_init 31 = .ok (.anewarray 27, 3) := by decide +kernel
theorem dX1_init_34 : decode cX1_init 34 = .ok (.putfield 29, 3) := by decide +kernel
theorem dX1_init_37 : decode cX1_init 37 = .ok (.aload_n 0, 1) := by decide +kernel
theorem dX1_init_38 : decode cX1_init 38 = .ok (.bipush 24, 2) := by decide +kernel
theorem dX1_init_40 : decode cX1_init 40 = .ok (.anewarray 33, 3) := by decide +kernel
theorem dX1_init_43 : decode cX1_init 43 = .ok (.putfield 35, 3) := by decide +kernel
theorem dX1_init_46 : decode cX1_init 46 = .ok (.aload_n 0, 1) := by decide +kernel
theorem dX1_init_47 : decode cX1_init 47 = .ok (.iconst 4, 1) := by decide +kernel
theorem dX1_init_48 : decode cX1_init 48 = .ok (.anewarray 39, 3) := by decide +kernel
theorem dX1_init_51 : decode cX1_init 51 = .ok (.putfield 41, 3) := by decide +kernel
theorem dX1_init_54 : decode cX1_init 54 = .ok (.iconst 0, 1) := by decide +kernel
theorem dX1_init_55 : decode cX1_init 55 = .ok (.istore_n 1, 1) := by decide +kernel
theorem dX1_init_56 : decode cX1_init 56 = .ok (.iload_n 1, 1) := by decide +kernel
theorem dX1_init_57 : decode cX1_init 57 = .ok (.aload_n 0, 1) := by decide +kernel
theorem dX1_init_58 : decode cX1_init 58 = .ok (.getfield 29, 3) := by decide +kernel
theorem dX1_init_61 : decode cX1_init 61 = .ok (.arraylength, 1) := by decide +kernel
theorem dX1_init_62 : decode cX1_init 62 = .ok (.if_icmp .ge 22, 3) := by decide +kernel
theorem dX1_init_65 : decode cX1_init 65 = .ok (.aload_n 0, 1) := by decide +kernel
theorem dX1_init_66 : decode cX1_init 66 = .ok (.getfield 29, 3) := by decide +kernel
theorem dX1_init_69 : decode cX1_init 69 = .ok (.iload_n 1, 1) := by decide +kernel
theorem dX1_init_70 : decode cX1_init 70 = .ok (.new 27, 3) := by decide +kernel
theorem dX1_init_73 : decode cX1_init 73 = .ok (.dup, 1) := by decide +kernel
theorem dX1_init_74 : decode cX1_init 74 = .ok (.invokespecial 45, 3) := by decide +kernel
theorem dX1_init_77 : decode cX1_init 77 = .ok (.aastore, 1) := by decide +kernel
theorem dX1_init_78 : decode cX1_init 78 = .ok (.iinc 1 1, 3) := by decide +kernel
theorem dX1_init_81 : decode cX1_init 81 = .ok (.goto (-25), 3) := by decide +kernel
theorem dX1_init_84 : decode cX1_init 84 = .ok (.iconst 0, 1) := by decide +kernel
theorem dX1_init_85 : decode cX1_init 85 = .ok (.istore_n 1, 1) := by decide +kernel
theorem dX1_init_86 : decode cX1_init 86 = .ok (.iload_n 1, 1) := by decide +kernel
theorem dX1_init_87 : decode cX1_init 87 = .ok (.aload_n 0, 1) := by decide +kernel
theorem dX1_init_88 : decode cX1_init 88 = .ok (.getfield 35, 3) := by decide +kernel
theorem dX1_init_91 : decode cX1_init 91 = .ok (.arraylength, 1) := by decide +kernel
theorem dX1_init_92 : decode cX1_init 92 = .ok (.if_icmp .ge 22, 3) := by decide +kernel
theorem dX1_init_95 : decode cX1_init 95 = .ok (.aload_n 0, 1) := by decide +kernel
theorem dX1_init_96 : decode cX1_init 96 = .ok (.getfield 35, 3) := by decide +kernel
theorem dX1_init_99 : decode cX1_init 99 = .ok (.iload_n 1, 1) := by decide +kernel
theorem dX1_init_100 : decode cX1_init 100 = .ok (.new 33, 3) := by decide +kernel
theorem dX1_init_103 : decode cX1_init 103 = .ok (.dup, 1) := by decide +kernel
theorem dX1_init_104 : decode cX1_init 104 = .ok (.invokespecial 46, 3) := by decide +kernel
theorem dX1_init_107 : decode cX1_init 107 = .ok (.aastore, 1) := by decide +kernel
theorem dX1_init_108 : decode cX1_init 108 = .ok (.iinc 1 1, 3) := by decide +kernel
theorem dX1_init_111 : decode cX1_init 111 = .ok (.goto (-25), 3) := by decide +kernel
theorem dX1_init_114 : decode cX1_init 114 = .ok (.iconst 0, 1) := by decide +kernel
theorem dX1_init_115 : decode cX1_init 115 = .ok (.istore_n 1, 1) := by decide +kernel
theorem dX1_init_116 : decode cX1_init 116 = .ok (.iload_n 1, 1) := by decide +kernel
theorem dX1_init_117 : decode cX1_init 117 = .ok (.aload_n 0, 1) := by decide +kernel
theorem dX1_init_118 : decode cX1_init 118 = .ok (.getfield 41, 3) := by decide +kernel
theorem dX1_init_121 : decode cX1_init 121 = .ok (.arraylength, 1) := by decide +kernel
theorem dX1_init_122 : decode cX1_init 122 = .ok (.if_icmp .ge 22, 3) := by decide +kernel
theorem dX1_init_125 : decode cX1_init 125 = .ok (.aload_n 0, 1) := by decide +kernel
theorem dX1_init_126 : decode cX1_init 126 = .ok (.getfield 41, 3) := by decide +kernel
theorem dX1_init_129 : decode cX1_init 129 = .ok (.iload_n 1, 1) := by decide +kernel
theorem dX1_init_130 : decode cX1_init 130 = .ok (.new 39, 3) := by decide +kernel
theorem dX1_init_133 : decode cX1_init 133 = .ok (.dup, 1) := by decide +kernel
theorem dX1_init_134 : decode cX1_init 134 = .ok (.invokespecial 47, 3) := by decide +kernel
theorem dX1_init_137 : decode cX1_init 137 = .ok (.aastore, 1) := by decide +kernel
theorem dX1_init_138 : decode cX1_init 138 = .ok (.iinc 1 1, 3) := by decide +kernel
theorem dX1_init_141 : decode cX1_init 141 = .ok (.goto (-25), 3) := by decide +kernel
theorem dX1_init_144 : decode cX1_init 144 = .ok (.return_, 1) := by decide +kernel
theorem dX1_copyFrom_0 : decode cX1_copyFrom 0 = .ok (.aload_n 1, 1) := by decide +kernel
theorem dX1_copyFrom_1 : decode cX1_copyFrom 1 = .ok (.ifnonnull 4, 3) := by decide +kernel
theorem dX1_copyFrom_4 : decode cX1_copyFrom 4 = .ok (.return_, 1) := by decide +kernel
theorem dX1_copyFrom_5 : decode cX1_copyFrom 5 = .ok (.aload_n 0, 1) := by decide +kernel
theorem dX1_copyFrom_6 : decode cX1_copyFrom 6 = .ok (.aload_n 1, 1) := by decide +kernel
theorem dX1_copyFrom_7 : decode cX1_copyFrom 7 = .ok (.getfield 9, 3) := by decide +kernel
theorem dX1_copyFrom_10 : decode cX1_copyFrom 10 = .ok (.putfield 9, 3) := by decide +kernel
theorem dX1_copyFrom_13 : decode cX1_copyFrom 13 = .ok (.aload_n 0, 1) := by decide +kernel
theorem dX1_copyFrom_14 : decode cX1_copyFrom 14 = .ok (.aload_n 1, 1) := by decide +kernel
theorem dX1_copyFrom_15 : decode cX1_copyFrom 15 = .ok (.getfield 15, 3) := by decide +kernel
theorem dX1_copyFrom_18 : decode cX1_copyFrom 18 = .ok (.putfield 15, 3) := by decide +kernel
theorem dX1_copyFrom_21 : decode cX1_copyFrom 21 = .ok (.aload_n 0, 1) := by decide +kernel
theorem dX1_copyFrom_22 : decode cX1_copyFrom 22 = .ok (.aload_n 1, 1) := by decide +kernel
theorem dX1_copyFrom_23 : decode cX1_copyFrom 23 = .ok (.getfield 18, 3) := by decide +kernel
theorem dX1_copyFrom_26 : decode cX1_copyFrom 26 = .ok (.putfield 18, 3) := by decide +kernel
theorem dX1_copyFrom_29 : decode cX1_copyFrom 29 = .ok (.aload_n 0, 1) := by decide +kernel
theorem dX1_copyFrom_30 : decode cX1_copyFrom 30 = .ok (.aload_n 1, 1) := by decide +kernel
theorem dX1_copyFrom_31 : decode cX1_copyFrom 31 = .ok (.getfield 21, 3) := by decide +kernel
theorem dX1_copyFrom_34 : decode cX1_copyFrom 34 = .ok (.putfield 21, 3) := by decide +kernel
theorem dX1_copyFrom_37 : decode cX1_copyFrom 37 = .ok (.aload_n 0, 1) := by decide +kernel
theorem dX1_copyFrom_38 : decode cX1_copyFrom 38 = .ok (.aload_n 1, 1) := by decide +kernel
theorem dX1_copyFrom_39 : decode cX1_copyFrom 39 = .ok (.getfield 24, 3) := by decide +kernel
theorem dX1_copyFrom_42 : decode cX1_copyFrom 42 = .ok (.putfield 24, 3) := by decide +kernel
theorem dX1_copyFrom_45 : decode cX1_copyFrom 45 = .ok (.iconst 0, 1) := by decide +kernel
theorem dX1_copyFrom_46 : decode cX1_copyFrom 46 = .ok (.istore_n 2, 1) := by decide +kernel
theorem dX1_copyFrom_47 : decode cX1_copyFrom 47 = .ok (.iload_n 2, 1) := by decide +kernel
theorem dX1_copyFrom_48 : decode cX1_copyFrom 48 = .ok (.aload_n 0, 1) := by decide +kernel
theorem dX1_copyFrom_49 : decode cX1_copyFrom 49 = .ok (.getfield 29, 3) := by decide +kernel
theorem dX1_copyFrom_52 : decode cX1_copyFrom 52 = .ok (.arraylength, 1) := by decide +kernel
theorem dX1_copyFrom_53 : decode cX1_copyFrom 53 = .ok (.if_icmp .ge 29, 3) := by decide +kernel
theorem dX1_copyFrom_56 : decode cX1_copyFrom 56 = .ok (.aload_n 0, 1) := by decide +kernel
theorem dX1_copyFrom_57 : decode cX1_copyFrom 57 = .ok (.getfield 29, 3) := by decide +kernel
theorem dX1_copyFrom_60 : decode cX1_copyFrom 60 = .ok (.iload_n 2, 1) := by decide +kernel
theorem dX1_copyFrom_61 : decode cX1_copyFrom 61 = .ok (.aaload, 1) := by decide +kernel
theorem dX1_copyFrom_62 : decode cX1_copyFrom 62 = .ok (.astore_n 3, 1) := by decide +kernel
theorem dX1_copyFrom_63 : decode cX1_copyFrom 63 = .ok (.aload_n 3, 1) := by decide +kernel
theorem dX1_copyFrom_64 : decode cX1_copyFrom 64 = .ok (.ifnull 12, 3) := by decide +kernel
theorem dX1_copyFrom_67 : decode cX1_copyFrom 67 = .ok (.aload_n 3, 1) := by decide +kernel
theorem dX1_copyFrom_68 : decode cX1_copyFrom 68 = .ok (.aload_n 1, 1) := by decide +kernel
theorem dX1_copyFrom_69 : decode cX1_copyFrom 69 = .ok (.iload_n 2, 1) := by decide +kernel
theorem dX1_copyFrom_70 : decode cX1_copyFrom 70 = .ok (.invokevirtual 48, 3) := by decide +kernel
theorem dX1_copyFrom_73 : decode cX1_copyFrom 73 = .ok (.invokevirtual 52, 3) := by decide +kernel
theorem dX1_copyFrom_76 : decode cX1_copyFrom 76 = .ok (.iinc 2 1, 3) := by decide +kernel
theorem dX1_copyFrom_79 : decode cX1_copyFrom 79 = .ok (.goto (-32), 3) := by decide +kernel
theorem dX1_copyFrom_82 : decode cX1_copyFrom 82 = .ok (.iconst 0, 1) := by decide +kernel
theorem dX1_copyFrom_83 : decode cX1_copyFrom 83 = .ok (.istore_n 2, 1) := by decide +kernel
theorem dX1_copyFrom_84 : decode cX1_copyFrom 84 = .ok (.iload_n 2, 1) := by decide +kernel
theorem dX1_copyFrom_85 : decode cX1_copyFrom 85 = .ok (.aload_n 0, 1) := by decide +kernel
theorem dX1_copyFrom_86 : decode cX1_copyFrom 86 = .ok (.getfield 35, 3) := by decide +kernel
theorem dX1_copyFrom_89 : decode cX1_copyFrom 89 = .ok (.arraylength, 1) := by decide +kernel
theorem dX1_copyFrom_90 : decode cX1_copyFrom 90 = .ok (.if_icmp .ge 29, 3) := by decide +kernel
theorem dX1_copyFrom_93 : decode cX1_copyFrom 93 = .ok (.aload_n 0, 1) := by decide +kernel
theorem dX1_copyFrom_94 : decode cX1_copyFrom 94 = .ok (.getfield 35, 3) := by decide +kernel
theorem dX1_copyFrom_97 : decode cX1_copyFrom 97 = .ok (.iload_n 2, 1) := by decide +kernel
theorem dX1_copyFrom_98 : decode cX1_copyFrom 98 = .ok (.aaload, 1) := by decide +kernel
theorem dX1_copyFrom_99 : decode cX1_copyFrom 99 = .ok (.astore_n 3, 1) := by decide +kernel
theorem dX1_copyFrom_100 : decode cX1_copyFrom 100 = .ok (.aload_n 3, 1) := by decide +kernel
theorem dX1_copyFrom_101 : decode cX1_copyFrom 101 = .ok (.ifnull 12, 3) := by decide +kernel
theorem dX1_copyFrom_104 : decode cX1_copyFrom 104 = .ok (.aload_n 3, 1) := by decide +kernel
theorem dX1_copyFrom_105 : decode cX1_copyFrom 105 = .ok (.aload_n 1, 1) := by decide +kernel
theorem dX1_copyFrom_106 : decode cX1_copyFrom 106 = .ok (.iload_n 2, 1) := by decide +kernel
theorem dX1_copyFrom_107 : decode cX1_copyFrom 107 = .ok (.invokevirtual 56, 3) := by decide +kernel
theorem dX1_copyFrom_110 : decode cX1_copyFrom 110 = .ok (.invokevirtual 60, 3) := by decide +kernel
theorem dX1_copyFrom_113 : decode cX1_copyFrom 113 = .ok (.iinc 2 1, 3) := by decide +kernel
theorem dX1_copyFrom_116 : decode cX1_copyFrom 116 = .ok (.goto (-32), 3) := by decide +kernel
theorem dX1_copyFrom_119 : decode cX1_copyFrom 119 = .ok (.iconst 0, 1) := by decide +kernel
theorem dX1_copyFrom_120 : decode cX1_copyFrom 120 = .ok (.istore_n 2, 1) := by decide +kernel
theorem dX1_copyFrom_121 : decode cX1_copyFrom 121 = .ok (.iload_n 2, 1) := by decide +kernel
theorem dX1_copyFrom_122 : decode cX1_copyFrom 122 = .ok (.aload_n 0, 1) := by decide +kernel
theorem dX1_copyFrom_123 : decode cX1_copyFrom 123 = .ok (.getfield 41, 3) := by decide +kernel
theorem dX1_copyFrom_126 : decode cX1_copyFrom 126 = .ok (.arraylength, 1) := by decide +kernel
theorem dX1_copyFrom_127 : decode cX1_copyFrom 127 = .ok (.if_icmp .ge 29, 3) := by decide +kernel
theorem dX1_copyFrom_130 : decode cX1_copyFrom 130 = .ok (.aload_n 0, 1) := by decide +kernel
theorem dX1_copyFrom_131 : decode cX1_copyFrom 131 = .ok (.getfield 41, 3) := by decide +kernel
theorem dX1_copyFrom_134 : decode cX1_copyFrom 134 = .ok (.iload_n 2, 1) := by decide +kernel
theorem dX1_copyFrom_135 : decode cX1_copyFrom 135 = .ok (.aaload, 1) := by decide +kernel
theorem dX1_copyFrom_136 : decode cX1_copyFrom 136 = .ok (.astore_n 3, 1) := by decide +kernel
theorem dX1_copyFrom_137 : decode cX1_copyFrom 137 = .ok (.aload_n 3, 1) := by decide +kernel
theorem dX1_copyFrom_138 : decode cX1_copyFrom 138 = .ok (.ifnull 12, 3) := by decide +kernel
theorem dX1_copyFrom_141 : decode cX1_copyFrom 141 = .ok (.aload_n 3, 1) := by decide +kernel
theorem dX1_copyFrom_142 : decode cX1_copyFrom 142 = .ok (.aload_n 1, 1) := by decide +kernel
theorem dX1_copyFrom_143 : decode cX1_copyFrom 143 = .ok (.iload_n 2, 1) := by decide +kernel
theorem dX1_copyFrom_144 : decode cX1_copyFrom 144 = .ok (.invokevirtual 63, 3) := by decide +kernel
theorem dX1_copyFrom_147 : decode cX1_copyFrom 147 = .ok (.invokevirtual 67, 3) := by decide +kernel
theorem dX1_copyFrom_150 : decode cX1_copyFrom 150 = .ok (.iinc 2 1, 3) := by decide +kernel
theorem dX1_copyFrom_153 : decode cX1_copyFrom 153 = .ok (.goto (-32), 3) := by decide +kernel
theorem dX1_copyFrom_156 : decode cX1_copyFrom 156 = .ok (.return_, 1) := by decide +kernel
theorem dX1_cellarOf_0 : decode cX1_cellarOf 0 = .ok (.iload_n 1, 1) := by decide +kernel
theorem dX1_cellarOf_1 : decode cX1_cellarOf 1 = .ok (.ifCond .lt 24, 3) := by decide +kernel
theorem dX1_cellarOf_4 : decode cX1_cellarOf 4 = .ok (.iload_n 1, 1) := by decide +kernel
theorem dX1_cellarOf_5 : decode cX1_cellarOf 5 = .ok (.aload_n 0, 1) := by decide +kernel
theorem dX1_cellarOf_6 : decode cX1_cellarOf 6 = .ok (.getfield 18, 3) := by decide +kernel
theorem dX1_cellarOf_9 : decode cX1_cellarOf 9 = .ok (.if_icmp .ge 16, 3) := by decide +kernel
theorem dX1_cellarOf_12 : decode cX1_cellarOf 12 = .ok (.iload_n 1, 1) := by decide +kernel
theorem dX1_cellarOf_13 : decode cX1_cellarOf 13 = .ok (.aload_n 0, 1) := by decide +kernel
theorem dX1_cellarOf_14 : decode cX1_cellarOf 14 = .ok (.getfield 29, 3) := by decide +kernel
theorem dX1_cellarOf_17 : decode cX1_cellarOf 17 = .ok (.arraylength, 1) := by decide +kernel
theorem dX1_cellarOf_18 : decode cX1_cellarOf 18 = .ok (.if_icmp .ge 7, 3) := by decide +kernel
theorem dX1_cellarOf_21 : decode cX1_cellarOf 21 = .ok (.iconst 1, 1) := by decide +kernel
theorem dX1_cellarOf_22 : decode cX1_cellarOf 22 = .ok (.goto 4, 3) := by decide +kernel
theorem dX1_cellarOf_25 : decode cX1_cellarOf 25 = .ok (.iconst 0, 1) := by decide +kernel
theorem dX1_cellarOf_26 : decode cX1_cellarOf 26 = .ok (.istore_n 2, 1) := by decide +kernel
theorem dX1_cellarOf_27 : decode cX1_cellarOf 27 = .ok (.iload_n 2, 1) := by decide +kernel
theorem dX1_cellarOf_28 : decode cX1_cellarOf 28 = .ok (.ifCond .eq 12, 3) := by decide +kernel
theorem dX1_cellarOf_31 : decode cX1_cellarOf 31 = .ok (.aload_n 0, 1) := by decide +kernel
theorem dX1_cellarOf_32 : decode cX1_cellarOf 32 = .ok (.getfield 29, 3) := by decide +kernel
theorem dX1_cellarOf_35 : decode cX1_cellarOf 35 = .ok (.iload_n 1, 1) := by decide +kernel
theorem dX1_cellarOf_36 : decode cX1_cellarOf 36 = .ok (.aaload, 1) := by decide +kernel
theorem dX1_cellarOf_37 : decode cX1_cellarOf 37 = .ok (.goto 4, 3) := by decide +kernel
theorem dX1_cellarOf_40 : decode cX1_cellarOf 40 = .ok (.aconst_null, 1) := by decide +kernel
theorem dX1_cellarOf_41 : decode cX1_cellarOf 41 = .ok (.areturn, 1) := by decide +kernel
theorem dX1_wheelOf_0 : decode cX1_wheelOf 0 = .ok (.iload_n 1, 1) := by decide +kernel
theorem dX1_wheelOf_1 : decode cX1_wheelOf 1 = .ok (.ifCond .lt 24, 3) := by decide +kernel
theorem dX1_wheelOf_4 : decode cX1_wheelOf 4 = .ok (.iload_n 1, 1) := by decide +kernel
theorem dX1_wheelOf_5 : decode cX1_wheelOf 5 = .ok (.aload_n 0, 1) := by decide +kernel
theorem dX1_wheelOf_6 : decode cX1_wheelOf 6 = .ok (.getfield 21, 3) := by decide +kernel
theorem dX1_wheelOf_9 : decode cX1_wheelOf 9 = .ok (.if_icmp .ge 16, 3) := by decide +kernel
theorem dX1_wheelOf_12 : decode cX1_wheelOf 12 = .ok (.iload_n 1, 1) := by decide +kernel
theorem dX1_wheelOf_13 : decode cX1_wheelOf 13 = .ok (.aload_n 0, 1) := by decide +kernel
theorem dX1_wheelOf_14 : decode cX1_wheelOf 14 = .ok (.getfield 35, 3) := by decide +kernel
theorem dX1_wheelOf_17 : decode cX1_wheelOf 17 = .ok (.arraylength, 1) := by decide +kernel
theorem dX1_wheelOf_18 : decode cX1_wheelOf 18 = .ok (.if_icmp .ge 7, 3) := by decide +kernel
theorem dX1_wheelOf_21 : decode cX1_wheelOf 21 = .ok (.iconst 1, 1) := by decide +kernel
theorem dX1_wheelOf_22 : decode cX1_wheelOf 22 = .ok (.goto 4, 3) := by decide +kernel
theorem dX1_wheelOf_25 : decode cX1_wheelOf 25 = .ok (.iconst 0, 1) := by decide +kernel
theorem dX1_wheelOf_26 : decode cX1_wheelOf 26 = .ok (.istore_n 2, 1) := by decide +kernel
theorem dX1_wheelOf_27 : decode cX1_wheelOf 27 = .ok (.iload_n 2, 1) := by decide +kernel
theorem dX1_wheelOf_28 : decode cX1_wheelOf 28 = .ok (.ifCond .eq 12, 3) := by decide +kernel
theorem dX1_wheelOf_31 : decode cX1_wheelOf 31 = .ok (.aload_n 0, 1) := by decide +kernel
theorem dX1_wheelOf_32 : decode cX1_wheelOf 32 = .ok (.getfield 35, 3) := by decide +kernel
theorem dX1_wheelOf_35 : decode cX1_wheelOf 35 = .ok (.iload_n 1, 1) := by decide +kernel
theorem dX1_wheelOf_36 : decode cX1_wheelOf 36 = .ok (.aaload, 1) := by decide +kernel
theorem dX1_wheelOf_37 : decode cX1_wheelOf 37 = .ok (.goto 4, 3) := by decide +kernel
theorem dX1_wheelOf_40 : decode cX1_wheelOf 40 = .ok (.aconst_null, 1) := by decide +kernel
theorem dX1_wheelOf_41 : decode cX1_wheelOf 41 = .ok (.areturn, 1) := by decide +kernel
theorem dX1_monkOf_0 : decode cX1_monkOf 0 = .ok (.iload_n 1, 1) := by decide +kernel
theorem dX1_monkOf_1 : decode cX1_monkOf 1 = .ok (.ifCond .lt 24, 3) := by decide +kernel
theorem dX1_monkOf_4 : decode cX1_monkOf 4 = .ok (.iload_n 1, 1) := by decide +kernel
theorem dX1_monkOf_5 : decode cX1_monkOf 5 = .ok (.aload_n 0, 1) := by decide +kernel
theorem dX1_monkOf_6 : decode cX1_monkOf 6 = .ok (.getfield 24, 3) := by decide +kernel
theorem dX1_monkOf_9 : decode cX1_monkOf 9 = .ok (.if_icmp .ge 16, 3) := by decide +kernel
theorem dX1_monkOf_12 : decode cX1_monkOf 12 = .ok (.iload_n 1, 1) := by decide +kernel
theorem dX1_monkOf_13 : decode cX1_monkOf 13 = .ok (.aload_n 0, 1) := by decide +kernel
theorem dX1_monkOf_14 : decode cX1_monkOf 14 = .ok (.getfield 41, 3) := by decide +kernel
theorem dX1_monkOf_17 : decode cX1_monkOf 17 = .ok (.arraylength, 1) := by decide +kernel
theorem dX1_monkOf_18 : decode cX1_monkOf 18 = .ok (.if_icmp .ge 7, 3) := by decide +kernel
theorem dX1_monkOf_21 : decode cX1_monkOf 21 = .ok (.iconst 1, 1) := by decide +kernel
theorem dX1_monkOf_22 : decode cX1_monkOf 22 = .ok (.goto 4, 3) := by decide +kernel
theorem dX1_monkOf_25 : decode cX1_monkOf 25 = .ok (.iconst 0, 1) := by decide +kernel
theorem dX1_monkOf_26 : decode cX1_monkOf 26 = .ok (.istore_n 2, 1) := by decide +kernel
theorem dX1_monkOf_27 : decode cX1_monkOf 27 = .ok (.iload_n 2, 1) := by decide +kernel
theorem dX1_monkOf_28 : decode cX1_monkOf 28 = .ok (.ifCond .eq 12, 3) := by decide +kernel
theorem dX1_monkOf_31 : decode cX1_monkOf 31 = .ok (.aload_n 0, 1) := by decide +kernel
theorem dX1_monkOf_32 : decode cX1_monkOf 32 = .ok (.getfield 41, 3) := by decide +kernel
theorem dX1_monkOf_35 : decode cX1_monkOf 35 = .ok (.iload_n 1, 1) := by decide +kernel
theorem dX1_monkOf_36 : decode cX1_monkOf 36 = .ok (.aaload, 1) := by decide +kernel
theorem dX1_monkOf_37 : decode cX1_monkOf 37 = .ok (.goto 4, 3) := by decide +kernel
theorem dX1_monkOf_40 : decode cX1_monkOf 40 = .ok (.aconst_null, 1) := by decide +kernel
theorem dX1_monkOf_41 : decode cX1_monkOf 41 = .ok (.areturn, 1) := by decide +kernel
theorem dX1_lyingWheel_0 : decode cX1_lyingWheel 0 = .ok (.aload_n 0, 1) := by decide +kernel
theorem dX1_lyingWheel_1 : decode cX1_lyingWheel 1 = .ok (.iload_n 1, 1) := by decide +kernel
theorem dX1_lyingWheel_2 : decode cX1_lyingWheel 2 = .ok (.invokevirtual 56, 3) := by decide +kernel
theorem dX1_lyingWheel_5 : decode cX1_lyingWheel 5 = .ok (.astore_n 2, 1) := by decide +kernel
theorem dX1_lyingWheel_6 : decode cX1_lyingWheel 6 = .ok (.aload_n 2, 1) := by decide +kernel
theorem dX1_lyingWheel_7 : decode cX1_lyingWheel 7 = .ok (.ifnull 14, 3) := by decide +kernel
theorem dX1_lyingWheel_10 : decode cX1_lyingWheel 10 = .ok (.aload_n 2, 1) := by decide +kernel
theorem dX1_lyingWheel_11 : decode cX1_lyingWheel 11 = .ok (.getfield 70, 3) := by decide +kernel
theorem dX1_lyingWheel_14 : decode cX1_lyingWheel 14 = .ok (.ifCond .ne 7, 3) := by decide +kernel
theorem dX1_lyingWheel_17 : decode cX1_lyingWheel 17 = .ok (.aload_n 2, 1) := by decide +kernel
theorem dX1_lyingWheel_18 : decode cX1_lyingWheel 18 = .ok (.goto 4, 3) := by decide +kernel
theorem dX1_lyingWheel_21 : decode cX1_lyingWheel 21 = .ok (.aconst_null, 1) := by decide +kernel
theorem dX1_lyingWheel_22 : decode cX1_lyingWheel 22 = .ok (.areturn, 1) := by decide +kernel
theorem dX1_addCellar_0 : decode cX1_addCellar 0 = .ok (.aload_n 0, 1) := by decide +kernel
theorem dX1_addCellar_1 : decode cX1_addCellar 1 = .ok (.getfield 18, 3) := by decide +kernel
theorem dX1_addCellar_4 : decode cX1_addCellar 4 = .ok (.istore_n 3, 1) := by decide +kernel
theorem dX1_addCellar_5 : decode cX1_addCellar 5 = .ok (.aload_n 0, 1) := by decide +kernel
theorem dX1_addCellar_6 : decode cX1_addCellar 6 = .ok (.dup, 1) := by decide +kernel
theorem dX1_addCellar_7 : decode cX1_addCellar 7 = .ok (.getfield 18, 3) := by decide +kernel
theorem dX1_addCellar_10 : decode cX1_addCellar 10 = .ok (.iconst 1, 1) := by decide +kernel
theorem dX1_addCellar_11 : decode cX1_addCellar 11 = .ok (.iadd, 1) := by decide +kernel
theorem dX1_addCellar_12 : decode cX1_addCellar 12 = .ok (.putfield 18, 3) := by decide +kernel
theorem dX1_addCellar_15 : decode cX1_addCellar 15 = .ok (.aload_n 0, 1) := by decide +kernel
theorem dX1_addCellar_16 : decode cX1_addCellar 16 = .ok (.iload_n 3, 1) := by decide +kernel
theorem dX1_addCellar_17 : decode cX1_addCellar 17 = .ok (.invokevirtual 48, 3) := by decide +kernel
theorem dX1_addCellar_20 : decode cX1_addCellar 20 = .ok (.astore 4, 2) := by decide +kernel
theorem dX1_addCellar_22 : decode cX1_addCellar 22 = .ok (.aload 4, 2) := by decide +kernel
theorem dX1_addCellar_24 : decode cX1_addCellar 24 = .ok (.ifnull 15, 3) := by decide +kernel
theorem dX1_addCellar_27 : decode cX1_addCellar 27 = .ok (.aload 4, 2) := by decide +kernel
theorem dX1_addCellar_29 : decode cX1_addCellar 29 = .ok (.iload_n 1, 1) := by decide +kernel
theorem dX1_addCellar_30 : decode cX1_addCellar 30 = .ok (.putfield 73, 3) := by decide +kernel
theorem dX1_addCellar_33 : decode cX1_addCellar 33 = .ok (.aload 4, 2) := by decide +kernel
theorem dX1_addCellar_35 : decode cX1_addCellar 35 = .ok (.iload_n 2, 1) := by decide +kernel
theorem dX1_addCellar_36 : decode cX1_addCellar 36 = .ok (.putfield 76, 3) := by decide +kernel
theorem dX1_addCellar_39 : decode cX1_addCellar 39 = .ok (.iload_n 3, 1) := by decide +kernel
theorem dX1_addCellar_40 : decode cX1_addCellar 40 = .ok (.ireturn, 1) := by decide +kernel
theorem dX1_addWheel_0 : decode cX1_addWheel 0 = .ok (.aload_n 0, 1) := by decide +kernel
theorem dX1_addWheel_1 : decode cX1_addWheel 1 = .ok (.getfield 21, 3) := by decide +kernel
theorem dX1_addWheel_4 : decode cX1_addWheel 4 = .ok (.istore_n 3, 1) := by decide +kernel
theorem dX1_addWheel_5 : decode cX1_addWheel 5 = .ok (.aload_n 0, 1) := by decide +kernel
theorem dX1_addWheel_6 : decode cX1_addWheel 6 = .ok (.dup, 1) := by decide +kernel
theorem dX1_addWheel_7 : decode cX1_addWheel 7 = .ok (.getfield 21, 3) := by decide +kernel
theorem dX1_addWheel_10 : decode cX1_addWheel 10 = .ok (.iconst 1, 1) := by decide +kernel
theorem dX1_addWheel_11 : decode cX1_addWheel 11 = .ok (.iadd, 1) := by decide +kernel
theorem dX1_addWheel_12 : decode cX1_addWheel 12 = .ok (.putfield 21, 3) := by decide +kernel
theorem dX1_addWheel_15 : decode cX1_addWheel 15 = .ok (.aload_n 0, 1) := by decide +kernel
theorem dX1_addWheel_16 : decode cX1_addWheel 16 = .ok (.iload_n 3, 1) := by decide +kernel
theorem dX1_addWheel_17 : decode cX1_addWheel 17 = .ok (.iload_n 1, 1) := by decide +kernel
theorem dX1_addWheel_18 : decode cX1_addWheel 18 = .ok (.iload_n 2, 1) := by decide +kernel
theorem dX1_addWheel_19 : decode cX1_addWheel 19 = .ok (.invokevirtual 79, 3) := by decide +kernel
theorem dX1_addWheel_22 : decode cX1_addWheel 22 = .ok (.iload_n 3, 1) := by decide +kernel
theorem dX1_addWheel_23 : decode cX1_addWheel 23 = .ok (.ireturn, 1) := by decide +kernel
theorem dX1_addMonk_0 : decode cX1_addMonk 0 = .ok (.aload_n 0, 1) := by decide +kernel
theorem dX1_addMonk_1 : decode cX1_addMonk 1 = .ok (.getfield 24, 3) := by decide +kernel
theorem dX1_addMonk_4 : decode cX1_addMonk 4 = .ok (.istore_n 3, 1) := by decide +kernel
theorem dX1_addMonk_5 : decode cX1_addMonk 5 = .ok (.aload_n 0, 1) := by decide +kernel
theorem dX1_addMonk_6 : decode cX1_addMonk 6 = .ok (.dup, 1) := by decide +kernel
theorem dX1_addMonk_7 : decode cX1_addMonk 7 = .ok (.getfield 24, 3) := by decide +kernel
theorem dX1_addMonk_10 : decode cX1_addMonk 10 = .ok (.iconst 1, 1) := by decide +kernel
theorem dX1_addMonk_11 : decode cX1_addMonk 11 = .ok (.iadd, 1) := by decide +kernel
theorem dX1_addMonk_12 : decode cX1_addMonk 12 = .ok (.putfield 24, 3) := by decide +kernel
theorem dX1_addMonk_15 : decode cX1_addMonk 15 = .ok (.aload_n 0, 1) := by decide +kernel
theorem dX1_addMonk_16 : decode cX1_addMonk 16 = .ok (.iload_n 3, 1) := by decide +kernel
theorem dX1_addMonk_17 : decode cX1_addMonk 17 = .ok (.invokevirtual 63, 3) := by decide +kernel
theorem dX1_addMonk_20 : decode cX1_addMonk 20 = .ok (.astore 4, 2) := by decide +kernel
theorem dX1_addMonk_22 : decode cX1_addMonk 22 = .ok (.aload 4, 2) := by decide +kernel
theorem dX1_addMonk_24 : decode cX1_addMonk 24 = .ok (.ifnull 15, 3) := by decide +kernel
theorem dX1_addMonk_27 : decode cX1_addMonk 27 = .ok (.aload 4, 2) := by decide +kernel
theorem dX1_addMonk_29 : decode cX1_addMonk 29 = .ok (.iload_n 1, 1) := by decide +kernel
theorem dX1_addMonk_30 : decode cX1_addMonk 30 = .ok (.putfield 83, 3) := by decide +kernel
theorem dX1_addMonk_33 : decode cX1_addMonk 33 = .ok (.aload 4, 2) := by decide +kernel
theorem dX1_addMonk_35 : decode cX1_addMonk 35 = .ok (.iload_n 2, 1) := by decide +kernel
theorem dX1_addMonk_36 : decode cX1_addMonk 36 = .ok (.putfield 86, 3) := by decide +kernel
theorem dX1_addMonk_39 : decode cX1_addMonk 39 = .ok (.iload_n 3, 1) := by decide +kernel
theorem dX1_addMonk_40 : decode cX1_addMonk 40 = .ok (.ireturn, 1) := by decide +kernel
theorem dX1_moveWheel_0 : decode cX1_moveWheel 0 = .ok (.aload_n 0, 1) := by decide +kernel
theorem dX1_moveWheel_1 : decode cX1_moveWheel 1 = .ok (.iload_n 1, 1) := by decide +kernel
theorem dX1_moveWheel_2 : decode cX1_moveWheel 2 = .ok (.invokevirtual 89, 3) := by decide +kernel
theorem dX1_moveWheel_5 : decode cX1_moveWheel 5 = .ok (.aload_n 0, 1) := by decide +kernel
theorem dX1_moveWheel_6 : decode cX1_moveWheel 6 = .ok (.iload_n 1, 1) := by decide +kernel
theorem dX1_moveWheel_7 : decode cX1_moveWheel 7 = .ok (.iload_n 2, 1) := by decide +kernel
theorem dX1_moveWheel_8 : decode cX1_moveWheel 8 = .ok (.iload_n 3, 1) := by decide +kernel
theorem dX1_moveWheel_9 : decode cX1_moveWheel 9 = .ok (.invokevirtual 79, 3) := by decide +kernel
theorem dX1_moveWheel_12 : decode cX1_moveWheel 12 = .ok (.return_, 1) := by decide +kernel
theorem dX1_takeAway_0 : decode cX1_takeAway 0 = .ok (.aload_n 0, 1) := by decide +kernel
theorem dX1_takeAway_1 : decode cX1_takeAway 1 = .ok (.iload_n 1, 1) := by decide +kernel
theorem dX1_takeAway_2 : decode cX1_takeAway 2 = .ok (.invokevirtual 89, 3) := by decide +kernel
theorem dX1_takeAway_5 : decode cX1_takeAway 5 = .ok (.aload_n 0, 1) := by decide +kernel
theorem dX1_takeAway_6 : decode cX1_takeAway 6 = .ok (.iload_n 1, 1) := by decide +kernel
theorem dX1_takeAway_7 : decode cX1_takeAway 7 = .ok (.invokevirtual 56, 3) := by decide +kernel
theorem dX1_takeAway_10 : decode cX1_takeAway 10 = .ok (.astore_n 3, 1) := by decide +kernel
theorem dX1_takeAway_11 : decode cX1_takeAway 11 = .ok (.aload_n 3, 1) := by decide +kernel
theorem dX1_takeAway_12 : decode cX1_takeAway 12 = .ok (.ifnull 8, 3) := by decide +kernel
theorem dX1_takeAway_15 : decode cX1_takeAway 15 = .ok (.aload_n 3, 1) := by decide +kernel
theorem dX1_takeAway_16 : decode cX1_takeAway 16 = .ok (.iload_n 2, 1) := by decide +kernel
theorem dX1_takeAway_17 : decode cX1_takeAway 17 = .ok (.putfield 70, 3) := by decide +kernel
theorem dX1_takeAway_20 : decode cX1_takeAway 20 = .ok (.return_, 1) := by decide +kernel
theorem dX1_putWheel_0 : decode cX1_putWheel 0 = .ok (.aload_n 0, 1) := by decide +kernel
theorem dX1_putWheel_1 : decode cX1_putWheel 1 = .ok (.iload_n 1, 1) := by decide +kernel
theorem dX1_putWheel_2 : decode cX1_putWheel 2 = .ok (.invokevirtual 56, 3) := by decide +kernel
theorem dX1_putWheel_5 : decode cX1_putWheel 5 = .ok (.astore 4, 2) := by decide +kernel
theorem dX1_putWheel_7 : decode cX1_putWheel 7 = .ok (.aload_n 0, 1) := by decide +kernel
theorem dX1_putWheel_8 : decode cX1_putWheel 8 = .ok (.iload_n 2, 1) := by decide +kernel
theorem dX1_putWheel_9 : decode cX1_putWheel 9 = .ok (.invokevirtual 48, 3) := by decide +kernel
theorem dX1_putWheel_12 : decode cX1_putWheel 12 = .ok (.astore 5, 2) := by decide +kernel
theorem dX1_putWheel_14 : decode cX1_putWheel 14 = .ok (.aload 4, 2) := by decide +kernel
theorem dX1_putWheel_16 : decode cX1_putWheel 16 = .ok (.ifnull 27, 3) := by decide +kernel
theorem dX1_putWheel_19 : decode cX1_putWheel 19 = .ok (.aload 5, 2) := by decide +kernel
theorem dX1_putWheel_21 : decode cX1_putWheel 21 = .ok (.ifnull 22, 3) := by decide +kernel
theorem dX1_putWheel_24 : decode cX1_putWheel 24 = .ok (.aload 4, 2) := by decide +kernel
theorem dX1_putWheel_26 : decode cX1_putWheel 26 = .ok (.iload_n 2, 1) := by decide +kernel
theorem dX1_putWheel_27 : decode cX1_putWheel 27 = .ok (.putfield 93, 3) := by decide +kernel
theorem dX1_putWheel_30 : decode cX1_putWheel 30 = .ok (.aload 4, 2) := by decide +kernel
theorem dX1_putWheel_32 : decode cX1_putWheel 32 = .ok (.iload_n 3, 1) := by decide +kernel
theorem dX1_putWheel_33 : decode cX1_putWheel 33 = .ok (.putfield 94, 3) := by decide +kernel
theorem dX1_putWheel_36 : decode cX1_putWheel 36 = .ok (.aload 5, 2) := by decide +kernel
theorem dX1_putWheel_38 : decode cX1_putWheel 38 = .ok (.iload_n 3, 1) := by decide +kernel
theorem dX1_putWheel_39 : decode cX1_putWheel 39 = .ok (.iload_n 1, 1) := by decide +kernel
theorem dX1_putWheel_40 : decode cX1_putWheel 40 = .ok (.invokevirtual 97, 3) := by decide +kernel
theorem dX1_putWheel_43 : decode cX1_putWheel 43 = .ok (.return_, 1) := by decide +kernel
theorem dX1_liftWheel_0 : decode cX1_liftWheel 0 = .ok (.aload_n 0, 1) := by decide +kernel
theorem dX1_liftWheel_1 : decode cX1_liftWheel 1 = .ok (.iload_n 1, 1) := by decide +kernel
theorem dX1_liftWheel_2 : decode cX1_liftWheel 2 = .ok (.invokevirtual 56, 3) := by decide +kernel
theorem dX1_liftWheel_5 : decode cX1_liftWheel 5 = .ok (.astore_n 2, 1) := by decide +kernel
theorem dX1_liftWheel_6 : decode cX1_liftWheel 6 = .ok (.aload_n 2, 1) := by decide +kernel
theorem dX1_liftWheel_7 : decode cX1_liftWheel 7 = .ok (.ifnonnull 7, 3) := by decide +kernel
theorem dX1_liftWheel_10 : decode cX1_liftWheel 10 = .ok (.aconst_null, 1) := by decide +kernel
theorem dX1_liftWheel_11 : decode cX1_liftWheel 11 = .ok (.goto 11, 3) := by decide +kernel
theorem dX1_liftWheel_14 : decode cX1_liftWheel 14 = .ok (.aload_n 0, 1) := by decide +kernel
theorem dX1_liftWheel_15 : decode cX1_liftWheel 15 = .ok (.aload_n 2, 1) := by decide +kernel
theorem dX1_liftWheel_16 : decode cX1_liftWheel 16 = .ok (.getfield 93, 3) := by decide +kernel
theorem dX1_liftWheel_19 : decode cX1_liftWheel 19 = .ok (.invokevirtual 48, 3) := by decide +kernel
theorem dX1_liftWheel_22 : decode cX1_liftWheel 22 = .ok (.astore_n 3, 1) := by decide +kernel
theorem dX1_liftWheel_23 : decode cX1_liftWheel 23 = .ok (.aload_n 2, 1) := by decide +kernel
theorem dX1_liftWheel_24 : decode cX1_liftWheel 24 = .ok (.ifnull 26, 3) := by decide +kernel
theorem dX1_liftWheel_27 : decode cX1_liftWheel 27 = .ok (.aload_n 3, 1) := by decide +kernel
theorem dX1_liftWheel_28 : decode cX1_liftWheel 28 = .ok (.ifnull 22, 3) := by decide +kernel
theorem dX1_liftWheel_31 : decode cX1_liftWheel 31 = .ok (.aload_n 3, 1) := by decide +kernel
theorem dX1_liftWheel_32 : decode cX1_liftWheel 32 = .ok (.aload_n 2, 1) := by decide +kernel
theorem dX1_liftWheel_33 : decode cX1_liftWheel 33 = .ok (.getfield 94, 3) := by decide +kernel
theorem dX1_liftWheel_36 : decode cX1_liftWheel 36 = .ok (.iconst (-1), 1) := by decide +kernel
theorem dX1_liftWheel_37 : decode cX1_liftWheel 37 = .ok (.invokevirtual 97, 3) := by decide +kernel
theorem dX1_liftWheel_40 : decode cX1_liftWheel 40 = .ok (.aload_n 2, 1) := by decide +kernel
theorem dX1_liftWheel_41 : decode cX1_liftWheel 41 = .ok (.iconst (-1), 1) := by decide +kernel
theorem dX1_liftWheel_42 : decode cX1_liftWheel 42 = .ok (.putfield 93, 3) := by decide +kernel
theorem dX1_liftWheel_45 : decode cX1_liftWheel 45 = .ok (.aload_n 2, 1) := by decide +kernel
theorem dX1_liftWheel_46 : decode cX1_liftWheel 46 = .ok (.iconst (-1), 1) := by decide +kernel
theorem dX1_liftWheel_47 : decode cX1_liftWheel 47 = .ok (.putfield 94, 3) := by decide +kernel
theorem dX1_liftWheel_50 : decode cX1_liftWheel 50 = .ok (.return_, 1) := by decide +kernel
theorem dX1_wheelsBeing_0 : decode cX1_wheelsBeing 0 = .ok (.iconst 0, 1) := by decide +kernel
theorem dX1_wheelsBeing_1 : decode cX1_wheelsBeing 1 = .ok (.istore_n 2, 1) := by decide +kernel
theorem dX1_wheelsBeing_2 : decode cX1_wheelsBeing 2 = .ok (.iconst 0, 1) := by decide +kernel
theorem dX1_wheelsBeing_3 : decode cX1_wheelsBeing 3 = .ok (.istore_n 3, 1) := by decide +kernel
theorem dX1_wheelsBeing_4 : decode cX1_wheelsBeing 4 = .ok (.iload_n 3, 1) := by decide +kernel
theorem dX1_wheelsBeing_5 : decode cX1_wheelsBeing 5 = .ok (.bipush 24, 2) := by decide +kernel
theorem dX1_wheelsBeing_7 : decode cX1_wheelsBeing 7 = .ok (.if_icmp .ge 33, 3) := by decide +kernel
theorem dX1_wheelsBeing_10 : decode cX1_wheelsBeing 10 = .ok (.aload_n 0, 1) := by decide +kernel
theorem dX1_wheelsBeing_11 : decode cX1_wheelsBeing 11 = .ok (.iload_n 3, 1) := by decide +kernel
theorem dX1_wheelsBeing_12 : decode cX1_wheelsBeing 12 = .ok (.invokevirtual 56, 3) := by decide +kernel
theorem dX1_wheelsBeing_15 : decode cX1_wheelsBeing 15 = .ok (.astore 4, 2) := by decide +kernel
theorem dX1_wheelsBeing_17 : decode cX1_wheelsBeing 17 = .ok (.aload 4, 2) := by decide +kernel
theorem dX1_wheelsBeing_19 : decode cX1_wheelsBeing 19 = .ok (.ifnull 15, 3) := by decide +kernel
theorem dX1_wheelsBeing_22 : decode cX1_wheelsBeing 22 = .ok (.aload 4, 2) := by decide +kernel
theorem dX1_wheelsBeing_24 : decode cX1_wheelsBeing 24 = .ok (.getfield 70, 3) := by decide +kernel
theorem dX1_wheelsBeing_27 : decode cX1_wheelsBeing 27 = .ok (.iload_n 1, 1) := by decide +kernel
theorem dX1_wheelsBeing_28 : decode cX1_wheelsBeing 28 = .ok (.if_icmp .ne 6, 3) := by decide +kernel
theorem dX1_wheelsBeing_31 : decode cX1_wheelsBeing 31 = .ok (.iinc 2 1, 3) := by decide +kernel
theorem dX1_wheelsBeing_34 : decode cX1_wheelsBeing 34 = .ok (.iinc 3 1, 3) := by decide +kernel
theorem dX1_wheelsBeing_37 : decode cX1_wheelsBeing 37 = .ok (.goto (-33), 3) := by decide +kernel
theorem dX1_wheelsBeing_40 : decode cX1_wheelsBeing 40 = .ok (.iload_n 2, 1) := by decide +kernel
theorem dX1_wheelsBeing_41 : decode cX1_wheelsBeing 41 = .ok (.ireturn, 1) := by decide +kernel
theorem dX1_mouldyWheels_0 : decode cX1_mouldyWheels 0 = .ok (.iconst 0, 1) := by decide +kernel
theorem dX1_mouldyWheels_1 : decode cX1_mouldyWheels 1 = .ok (.istore_n 1, 1) := by decide +kernel
theorem dX1_mouldyWheels_2 : decode cX1_mouldyWheels 2 = .ok (.iconst 0, 1) := by decide +kernel
theorem dX1_mouldyWheels_3 : decode cX1_mouldyWheels 3 = .ok (.istore_n 2, 1) := by decide +kernel
theorem dX1_mouldyWheels_4 : decode cX1_mouldyWheels 4 = .ok (.iload_n 2, 1) := by decide +kernel
theorem dX1_mouldyWheels_5 : decode cX1_mouldyWheels 5 = .ok (.iconst 4, 1) := by decide +kernel
theorem dX1_mouldyWheels_6 : decode cX1_mouldyWheels 6 = .ok (.if_icmp .ge 17, 3) := by decide +kernel
theorem dX1_mouldyWheels_9 : decode cX1_mouldyWheels 9 = .ok (.iload_n 1, 1) := by decide +kernel
theorem dX1_mouldyWheels_10 : decode cX1_mouldyWheels 10 = .ok (.aload_n 0, 1) := by decide +kernel
theorem dX1_mouldyWheels_11 : decode cX1_mouldyWheels 11 = .ok (.iload_n 2, 1) := by decide +kernel
theorem dX1_mouldyWheels_12 : decode cX1_mouldyWheels 12 = .ok (.invokevirtual 101, 3) := by decide +kernel
theorem dX1_mouldyWheels_15 : decode cX1_mouldyWheels 15 = .ok (.iadd, 1) := by decide +kernel
theorem dX1_mouldyWheels_16 : decode cX1_mouldyWheels 16 = .ok (.istore_n 1, 1) := by decide +kernel
theorem dX1_mouldyWheels_17 : decode cX1_mouldyWheels 17 = .ok (.iinc 2 1, 3) := by decide +kernel
theorem dX1_mouldyWheels_20 : decode cX1_mouldyWheels 20 = .ok (.goto (-16), 3) := by decide +kernel
theorem dX1_mouldyWheels_23 : decode cX1_mouldyWheels 23 = .ok (.iload_n 1, 1) := by decide +kernel
theorem dX1_mouldyWheels_24 : decode cX1_mouldyWheels 24 = .ok (.ireturn, 1) := by decide +kernel
theorem dX1_wheelsIn_0 : decode cX1_wheelsIn 0 = .ok (.iconst 0, 1) := by decide +kernel
theorem dX1_wheelsIn_1 : decode cX1_wheelsIn 1 = .ok (.istore_n 2, 1) := by decide +kernel
theorem dX1_wheelsIn_2 : decode cX1_wheelsIn 2 = .ok (.iconst 0, 1) := by decide +kernel
theorem dX1_wheelsIn_3 : decode cX1_wheelsIn 3 = .ok (.istore_n 3, 1) := by decide +kernel
theorem dX1_wheelsIn_4 : decode cX1_wheelsIn 4 = .ok (.iload_n 3, 1) := by decide +kernel
theorem dX1_wheelsIn_5 : decode cX1_wheelsIn 5 = .ok (.bipush 24, 2) := by decide +kernel
theorem dX1_wheelsIn_7 : decode cX1_wheelsIn 7 = .ok (.if_icmp .ge 33, 3) := by decide +kernel
theorem dX1_wheelsIn_10 : decode cX1_wheelsIn 10 = .ok (.aload_n 0, 1) := by decide +kernel
theorem dX1_wheelsIn_11 : decode cX1_wheelsIn 11 = .ok (.iload_n 3, 1) := by decide +kernel
theorem dX1_wheelsIn_12 : decode cX1_wheelsIn 12 = .ok (.invokevirtual 105, 3) := by decide +kernel
theorem dX1_wheelsIn_15 : decode cX1_wheelsIn 15 = .ok (.astore 4, 2) := by decide +kernel
theorem dX1_wheelsIn_17 : decode cX1_wheelsIn 17 = .ok (.aload 4, 2) := by decide +kernel
theorem dX1_wheelsIn_19 : decode cX1_wheelsIn 19 = .ok (.ifnull 15, 3) := by decide +kernel
theorem dX1_wheelsIn_22 : decode cX1_wheelsIn 22 = .ok (.aload 4, 2) := by decide +kernel
theorem dX1_wheelsIn_24 : decode cX1_wheelsIn 24 = .ok (.getfield 93, 3) := by decide +kernel
theorem dX1_wheelsIn_27 : decode cX1_wheelsIn 27 = .ok (.iload_n 1, 1) := by decide +kernel
theorem dX1_wheelsIn_28 : decode cX1_wheelsIn 28 = .ok (.if_icmp .ne 6, 3) := by decide +kernel
theorem dX1_wheelsIn_31 : decode cX1_wheelsIn 31 = .ok (.iinc 2 1, 3) := by decide +kernel
theorem dX1_wheelsIn_34 : decode cX1_wheelsIn 34 = .ok (.iinc 3 1, 3) := by decide +kernel
theorem dX1_wheelsIn_37 : decode cX1_wheelsIn 37 = .ok (.goto (-33), 3) := by decide +kernel
theorem dX1_wheelsIn_40 : decode cX1_wheelsIn 40 = .ok (.iload_n 2, 1) := by decide +kernel
theorem dX1_wheelsIn_41 : decode cX1_wheelsIn 41 = .ok (.ireturn, 1) := by decide +kernel
theorem dX1_mouldyWheelsIn_0 : decode cX1_mouldyWheelsIn 0 = .ok (.iconst 0, 1) := by decide +kernel
theorem dX1_mouldyWheelsIn_1 : decode cX1_mouldyWheelsIn 1 = .ok (.istore_n 2, 1) := by decide +kernel
theorem dX1_mouldyWheelsIn_2 : decode cX1_mouldyWheelsIn 2 = .ok (.iconst 0, 1) := by decide +kernel
theorem dX1_mouldyWheelsIn_3 : decode cX1_mouldyWheelsIn 3 = .ok (.istore_n 3, 1) := by decide +kernel
theorem dX1_mouldyWheelsIn_4 : decode cX1_mouldyWheelsIn 4 = .ok (.iload_n 3, 1) := by decide +kernel
theorem dX1_mouldyWheelsIn_5 : decode cX1_mouldyWheelsIn 5 = .ok (.bipush 24, 2) := by decide +kernel
theorem dX1_mouldyWheelsIn_7 : decode cX1_mouldyWheelsIn 7 = .ok (.if_icmp .ge 41, 3) := by decide +kernel
theorem dX1_mouldyWheelsIn_10 : decode cX1_mouldyWheelsIn 10 = .ok (.aload_n 0, 1) := by decide +kernel
theorem dX1_mouldyWheelsIn_11 : decode cX1_mouldyWheelsIn 11 = .ok (.iload_n 3, 1) := by decide +kernel
theorem dX1_mouldyWheelsIn_12 : decode cX1_mouldyWheelsIn 12 = .ok (.invokevirtual 105, 3) := by decide +kernel
theorem dX1_mouldyWheelsIn_15 : decode cX1_mouldyWheelsIn 15 = .ok (.astore 4, 2) := by decide +kernel
theorem dX1_mouldyWheelsIn_17 : decode cX1_mouldyWheelsIn 17 = .ok (.aload 4, 2) := by decide +kernel
theorem dX1_mouldyWheelsIn_19 : decode cX1_mouldyWheelsIn 19 = .ok (.ifnull 23, 3) := by decide +kernel
theorem dX1_mouldyWheelsIn_22 : decode cX1_mouldyWheelsIn 22 = .ok (.aload 4, 2) := by decide +kernel
theorem dX1_mouldyWheelsIn_24 : decode cX1_mouldyWheelsIn 24 = .ok (.getfield 93, 3) := by decide +kernel
theorem dX1_mouldyWheelsIn_27 : decode cX1_mouldyWheelsIn 27 = .ok (.iload_n 1, 1) := by decide +kernel
theorem dX1_mouldyWheelsIn_28 : decode cX1_mouldyWheelsIn 28 = .ok (.if_icmp .ne 14, 3) := by decide +kernel
theorem dX1_mouldyWheelsIn_31 : decode cX1_mouldyWheelsIn 31 = .ok (.aload 4, 2) := by decide +kernel
theorem dX1_mouldyWheelsIn_33 : decode cX1_mouldyWheelsIn 33 = .ok (.getfield 108, 3) := by decide +kernel
theorem dX1_mouldyWheelsIn_36 : decode cX1_mouldyWheelsIn 36 = .ok (.ifCond .eq 6, 3) := by decide +kernel
theorem dX1_mouldyWheelsIn_39 : decode cX1_mouldyWheelsIn 39 = .ok (.iinc 2 1, 3) := by decide +kernel
theorem dX1_mouldyWheelsIn_42 : decode cX1_mouldyWheelsIn 42 = .ok (.iinc 3 1, 3) := by decide +kernel
theorem dX1_mouldyWheelsIn_45 : decode cX1_mouldyWheelsIn 45 = .ok (.goto (-41), 3) := by decide +kernel
theorem dX1_mouldyWheelsIn_48 : decode cX1_mouldyWheelsIn 48 = .ok (.iload_n 2, 1) := by decide +kernel
theorem dX1_mouldyWheelsIn_49 : decode cX1_mouldyWheelsIn 49 = .ok (.ireturn, 1) := by decide +kernel
theorem dX1_worthOfLying_0 : decode cX1_worthOfLying 0 = .ok (.aload_n 0, 1) := by decide +kernel
theorem dX1_worthOfLying_1 : decode cX1_worthOfLying 1 = .ok (.iload_n 1, 1) := by decide +kernel
theorem dX1_worthOfLying_2 : decode cX1_worthOfLying 2 = .ok (.invokevirtual 105, 3) := by decide +kernel
theorem dX1_worthOfLying_5 : decode cX1_worthOfLying 5 = .ok (.astore_n 2, 1) := by decide +kernel
theorem dX1_worthOfLying_6 : decode cX1_worthOfLying 6 = .ok (.aload_n 2, 1) := by decide +kernel
theorem dX1_worthOfLying_7 : decode cX1_worthOfLying 7 = .ok (.ifnonnull 7, 3) := by decide +kernel
theorem dX1_worthOfLying_10 : decode cX1_worthOfLying 10 = .ok (.iconst 0, 1) := by decide +kernel
theorem dX1_worthOfLying_11 : decode cX1_worthOfLying 11 = .ok (.goto 7, 3) := by decide +kernel
theorem dX1_worthOfLying_14 : decode cX1_worthOfLying 14 = .ok (.aload_n 2, 1) := by decide +kernel
theorem dX1_worthOfLying_15 : decode cX1_worthOfLying 15 = .ok (.invokevirtual 111, 3) := by decide +kernel
theorem dX1_worthOfLying_18 : decode cX1_worthOfLying 18 = .ok (.ireturn, 1) := by decide +kernel
theorem dX1_worthOfAllLying_0 : decode cX1_worthOfAllLying 0 = .ok (.iconst 0, 1) := by decide +kernel
theorem dX1_worthOfAllLying_1 : decode cX1_worthOfAllLying 1 = .ok (.istore_n 1, 1) := by decide +kernel
theorem dX1_worthOfAllLying_2 : decode cX1_worthOfAllLying 2 = .ok (.iconst 0, 1) := by decide +kernel
theorem dX1_worthOfAllLying_3 : decode cX1_worthOfAllLying 3 = .ok (.istore_n 2, 1) := by decide +kernel
theorem dX1_worthOfAllLying_4 : decode cX1_worthOfAllLying 4 = .ok (.iload_n 2, 1) := by decide +kernel
theorem dX1_worthOfAllLying_5 : decode cX1_worthOfAllLying 5 = .ok (.bipush 24, 2) := by decide +kernel
theorem dX1_worthOfAllLying_7 : decode cX1_worthOfAllLying 7 = .ok (.if_icmp .ge 17, 3) := by decide +kernel
theorem dX1_worthOfAllLying_10 : decode cX1_worthOfAllLying 10 = .ok (.iload_n 1, 1) := by decide +kernel
theorem dX1_worthOfAllLying_11 : decode cX1_worthOfAllLying 11 = .ok (.aload_n 0, 1) := by decide +kernel
theorem dX1_worthOfAllLying_12 : decode cX1_worthOfAllLying 12 = .ok (.iload_n 2, 1) := by decide +kernel
theorem dX1_worthOfAllLying_13 : decode cX1_worthOfAllLying 13 = .ok (.invokevirtual 115, 3) := by decide +kernel
theorem dX1_worthOfAllLying_16 : decode cX1_worthOfAllLying 16 = .ok (.iadd, 1) := by decide +kernel
theorem dX1_worthOfAllLying_17 : decode cX1_worthOfAllLying 17 = .ok (.istore_n 1, 1) := by decide +kernel
theorem dX1_worthOfAllLying_18 : decode cX1_worthOfAllLying 18 = .ok (.iinc 2 1, 3) := by decide +kernel
theorem dX1_worthOfAllLying_21 : decode cX1_worthOfAllLying 21 = .ok (.goto (-17), 3) := by decide +kernel
theorem dX1_worthOfAllLying_24 : decode cX1_worthOfAllLying 24 = .ok (.iload_n 1, 1) := by decide +kernel
theorem dX1_worthOfAllLying_25 : decode cX1_worthOfAllLying 25 = .ok (.ireturn, 1) := by decide +kernel
theorem dX1_cellarFact_0 : decode cX1_cellarFact 0 = .ok (.aload_n 0, 1) := by decide +kernel
theorem dX1_cellarFact_1 : decode cX1_cellarFact 1 = .ok (.iload_n 1, 1) := by decide +kernel
theorem dX1_cellarFact_2 : decode cX1_cellarFact 2 = .ok (.invokevirtual 48, 3) := by decide +kernel
theorem dX1_cellarFact_5 : decode cX1_cellarFact 5 = .ok (.astore_n 3, 1) := by decide +kernel
theorem dX1_cellarFact_6 : decode cX1_cellarFact 6 = .ok (.aload_n 3, 1) := by decide +kernel
theorem dX1_cellarFact_7 : decode cX1_cellarFact 7 = .ok (.ifnonnull 5, 3) := by decide +kernel
theorem dX1_cellarFact_10 : decode cX1_cellarFact 10 = .ok (.iconst 0, 1) := by decide +kernel
theorem dX1_cellarFact_11 : decode cX1_cellarFact 11 = .ok (.ireturn, 1) := by decide +kernel
theorem dX1_cellarFact_12 : decode cX1_cellarFact 12 = .ok (.iload_n 2, 1) := by decide +kernel
theorem dX1_cellarFact_13 : decode cX1_cellarFact 13 = .ok (.tableswitch 43 0 2 #[27, 32, 37], 27) := by decide +kernel
theorem dX1_cellarFact_40 : decode cX1_cellarFact 40 = .ok (.aload_n 3, 1) := by decide +kernel
theorem dX1_cellarFact_41 : decode cX1_cellarFact 41 = .ok (.getfield 73, 3) := by decide +kernel
theorem dX1_cellarFact_44 : decode cX1_cellarFact 44 = .ok (.ireturn, 1) := by decide +kernel
theorem dX1_cellarFact_45 : decode cX1_cellarFact 45 = .ok (.aload_n 3, 1) := by decide +kernel
theorem dX1_cellarFact_46 : decode cX1_cellarFact 46 = .ok (.getfield 76, 3) := by decide +kernel
theorem dX1_cellarFact_49 : decode cX1_cellarFact 49 = .ok (.ireturn, 1) := by decide +kernel
theorem dX1_cellarFact_50 : decode cX1_cellarFact 50 = .ok (.aload_n 0, 1) := by decide +kernel
theorem dX1_cellarFact_51 : decode cX1_cellarFact 51 = .ok (.iload_n 1, 1) := by decide +kernel
theorem dX1_cellarFact_52 : decode cX1_cellarFact 52 = .ok (.invokevirtual 118, 3) := by decide +kernel
theorem dX1_cellarFact_55 : decode cX1_cellarFact 55 = .ok (.ireturn, 1) := by decide +kernel
theorem dX1_cellarFact_56 : decode cX1_cellarFact 56 = .ok (.aload_n 0, 1) := by decide +kernel
theorem dX1_cellarFact_57 : decode cX1_cellarFact 57 = .ok (.iload_n 1, 1) := by decide +kernel
theorem dX1_cellarFact_58 : decode cX1_cellarFact 58 = .ok (.invokevirtual 101, 3) := by decide +kernel
theorem dX1_cellarFact_61 : decode cX1_cellarFact 61 = .ok (.ireturn, 1) := by decide +kernel
theorem dX1_fact_0 : decode cX1_fact 0 = .ok (.iload_n 1, 1) := by decide +kernel
theorem dX1_fact_1 : decode cX1_fact 1 = .ok (.tableswitch 90 0 7 #[47, 52, 57, 62, 68, 74, 80, 85], 47) := by decide +kernel
theorem dX1_fact_48 : decode cX1_fact 48 = .ok (.aload_n 0, 1) := by decide +kernel
theorem dX1_fact_49 : decode cX1_fact 49 = .ok (.getfield 9, 3) := by decide +kernel
theorem dX1_fact_52 : decode cX1_fact 52 = .ok (.ireturn, 1) := by decide +kernel
theorem dX1_fact_53 : decode cX1_fact 53 = .ok (.aload_n 0, 1) := by decide +kernel
theorem dX1_fact_54 : decode cX1_fact 54 = .ok (.getfield 18, 3) := by decide +kernel
theorem dX1_fact_57 : decode cX1_fact 57 = .ok (.ireturn, 1) := by decide +kernel
theorem dX1_fact_58 : decode cX1_fact 58 = .ok (.aload_n 0, 1) := by decide +kernel
theorem dX1_fact_59 : decode cX1_fact 59 = .ok (.getfield 21, 3) := by decide +kernel
theorem dX1_fact_62 : decode cX1_fact 62 = .ok (.ireturn, 1) := by decide +kernel
theorem dX1_fact_63 : decode cX1_fact 63 = .ok (.aload_n 0, 1) := by decide +kernel
theorem dX1_fact_64 : decode cX1_fact 64 = .ok (.iconst 0, 1) := by decide +kernel
theorem dX1_fact_65 : decode cX1_fact 65 = .ok (.invokevirtual 121, 3) := by decide +kernel
theorem dX1_fact_68 : decode cX1_fact 68 = .ok (.ireturn, 1) := by decide +kernel
theorem dX1_fact_69 : decode cX1_fact 69 = .ok (.aload_n 0, 1) := by decide +kernel
theorem dX1_fact_70 : decode cX1_fact 70 = .ok (.iconst 1, 1) := by decide +kernel
theorem dX1_fact_71 : decode cX1_fact 71 = .ok (.invokevirtual 121, 3) := by decide +kernel
theorem dX1_fact_74 : decode cX1_fact 74 = .ok (.ireturn, 1) := by decide +kernel
theorem dX1_fact_75 : decode cX1_fact 75 = .ok (.aload_n 0, 1) := by decide +kernel
theorem dX1_fact_76 : decode cX1_fact 76 = .ok (.iconst 2, 1) := by decide +kernel
theorem dX1_fact_77 : decode cX1_fact 77 = .ok (.invokevirtual 121, 3) := by decide +kernel
theorem dX1_fact_80 : decode cX1_fact 80 = .ok (.ireturn, 1) := by decide +kernel
theorem dX1_fact_81 : decode cX1_fact 81 = .ok (.aload_n 0, 1) := by decide +kernel
theorem dX1_fact_82 : decode cX1_fact 82 = .ok (.invokevirtual 124, 3) := by decide +kernel
theorem dX1_fact_85 : decode cX1_fact 85 = .ok (.ireturn, 1) := by decide +kernel
theorem dX1_fact_86 : decode cX1_fact 86 = .ok (.aload_n 0, 1) := by decide +kernel
theorem dX1_fact_87 : decode cX1_fact 87 = .ok (.getfield 15, 3) := by decide +kernel
theorem dX1_fact_90 : decode cX1_fact 90 = .ok (.ireturn, 1) := by decide +kernel
theorem dX1_fact_91 : decode cX1_fact 91 = .ok (.aload_n 0, 1) := by decide +kernel
theorem dX1_fact_92 : decode cX1_fact 92 = .ok (.getfield 24, 3) := by decide +kernel
theorem dX1_fact_95 : decode cX1_fact 95 = .ok (.ireturn, 1) := by decide +kernel
theorem dX1_letDaysGoBy_0 : decode cX1_letDaysGoBy 0 = .ok (.iconst 0, 1) := by decide +kernel
theorem dX1_letDaysGoBy_1 : decode cX1_letDaysGoBy 1 = .ok (.istore_n 2, 1) := by decide +kernel
theorem dX1_letDaysGoBy_2 : decode cX1_letDaysGoBy 2 = .ok (.iload_n 2, 1) := by decide +kernel
theorem dX1_letDaysGoBy_3 : decode cX1_letDaysGoBy 3 = .ok (.iload_n 1, 1) := by decide +kernel
theorem dX1_letDaysGoBy_4 : decode cX1_letDaysGoBy 4 = .ok (.if_icmp .ge 45, 3) := by decide +kernel
theorem dX1_letDaysGoBy_7 : decode cX1_letDaysGoBy 7 = .ok (.iconst 0, 1) := by decide +kernel
theorem dX1_letDaysGoBy_8 : decode cX1_letDaysGoBy 8 = .ok (.istore_n 3, 1) := by decide +kernel
theorem dX1_letDaysGoBy_9 : decode cX1_letDaysGoBy 9 = .ok (.iload_n 3, 1) := by decide +kernel
theorem dX1_letDaysGoBy_10 : decode cX1_letDaysGoBy 10 = .ok (.iconst 4, 1) := by decide +kernel
theorem dX1_letDaysGoBy_11 : decode cX1_letDaysGoBy 11 = .ok (.if_icmp .ge 14, 3) := by decide +kernel
theorem dX1_letDaysGoBy_14 : decode cX1_letDaysGoBy 14 = .ok (.aload_n 0, 1) := by decide +kernel
theorem dX1_letDaysGoBy_15 : decode cX1_letDaysGoBy 15 = .ok (.iload_n 3, 1) := by decide +kernel
theorem dX1_letDaysGoBy_16 : decode cX1_letDaysGoBy 16 = .ok (.invokevirtual 127, 3) := by decide +kernel
theorem dX1_letDaysGoBy_19 : decode cX1_letDaysGoBy 19 = .ok (.iinc 3 1, 3) := by decide +kernel
theorem dX1_letDaysGoBy_22 : decode cX1_letDaysGoBy 22 = .ok (.goto (-13), 3) := by decide +kernel
theorem dX1_letDaysGoBy_25 : decode cX1_letDaysGoBy 25 = .ok (.aload_n 0, 1) := by decide +kernel
theorem dX1_letDaysGoBy_26 : decode cX1_letDaysGoBy 26 = .ok (.invokevirtual 130, 3) := by decide +kernel
theorem dX1_letDaysGoBy_29 : decode cX1_letDaysGoBy 29 = .ok (.aload_n 0, 1) := by decide +kernel
theorem dX1_letDaysGoBy_30 : decode cX1_letDaysGoBy 30 = .ok (.invokevirtual 133, 3) := by decide +kernel
theorem dX1_letDaysGoBy_33 : decode cX1_letDaysGoBy 33 = .ok (.aload_n 0, 1) := by decide +kernel
theorem dX1_letDaysGoBy_34 : decode cX1_letDaysGoBy 34 = .ok (.dup, 1) := by decide +kernel
theorem dX1_letDaysGoBy_35 : decode cX1_letDaysGoBy 35 = .ok (.getfield 9, 3) := by decide +kernel
theorem dX1_letDaysGoBy_38 : decode cX1_letDaysGoBy 38 = .ok (.iconst 1, 1) := by decide +kernel
theorem dX1_letDaysGoBy_39 : decode cX1_letDaysGoBy 39 = .ok (.iadd, 1) := by decide +kernel
theorem dX1_letDaysGoBy_40 : decode cX1_letDaysGoBy 40 = .ok (.putfield 9, 3) := by decide +kernel
theorem dX1_letDaysGoBy_43 : decode cX1_letDaysGoBy 43 = .ok (.iinc 2 1, 3) := by decide +kernel
theorem dX1_letDaysGoBy_46 : decode cX1_letDaysGoBy 46 = .ok (.goto (-44), 3) := by decide +kernel
theorem dX1_letDaysGoBy_49 : decode cX1_letDaysGoBy 49 = .ok (.return_, 1) := by decide +kernel
theorem dX1_letMonkWork_0 : decode cX1_letMonkWork 0 = .ok (.aload_n 0, 1) := by decide +kernel
theorem dX1_letMonkWork_1 : decode cX1_letMonkWork 1 = .ok (.iload_n 1, 1) := by decide +kernel
theorem dX1_letMonkWork_2 : decode cX1_letMonkWork 2 = .ok (.invokevirtual 63, 3) := by decide +kernel
theorem dX1_letMonkWork_5 : decode cX1_letMonkWork 5 = .ok (.astore_n 2, 1) := by decide +kernel
theorem dX1_letMonkWork_6 : decode cX1_letMonkWork 6 = .ok (.aload_n 2, 1) := by decide +kernel
theorem dX1_letMonkWork_7 : decode cX1_letMonkWork 7 = .ok (.ifnonnull 4, 3) := by decide +kernel
theorem dX1_letMonkWork_10 : decode cX1_letMonkWork 10 = .ok (.return_, 1) := by decide +kernel
theorem dX1_letMonkWork_11 : decode cX1_letMonkWork 11 = .ok (.aload_n 2, 1) := by decide +kernel
theorem dX1_letMonkWork_12 : decode cX1_letMonkWork 12 = .ok (.aload_n 0, 1) := by decide +kernel
theorem dX1_letMonkWork_13 : decode cX1_letMonkWork 13 = .ok (.getfield 9, 3) := by decide +kernel
theorem dX1_letMonkWork_16 : decode cX1_letMonkWork 16 = .ok (.invokevirtual 136, 3) := by decide +kernel
theorem dX1_letMonkWork_19 : decode cX1_letMonkWork 19 = .ok (.istore_n 3, 1) := by decide +kernel
theorem dX1_letMonkWork_20 : decode cX1_letMonkWork 20 = .ok (.iload_n 3, 1) := by decide +kernel
theorem dX1_letMonkWork_21 : decode cX1_letMonkWork 21 = .ok (.ifCond .ne 9, 3) := by decide +kernel
theorem dX1_letMonkWork_24 : decode cX1_letMonkWork 24 = .ok (.aload_n 2, 1) := by decide +kernel
theorem dX1_letMonkWork_25 : decode cX1_letMonkWork 25 = .ok (.iconst 0, 1) := by decide +kernel
theorem dX1_letMonkWork_26 : decode cX1_letMonkWork 26 = .ok (.putfield 139, 3) := by decide +kernel
theorem dX1_letMonkWork_29 : decode cX1_letMonkWork 29 = .ok (.return_, 1) := by decide +kernel
theorem dX1_letMonkWork_30 : decode cX1_letMonkWork 30 = .ok (.aload_n 0, 1) := by decide +kernel
theorem dX1_letMonkWork_31 : decode cX1_letMonkWork 31 = .ok (.aload_n 2, 1) := by decide +kernel
theorem dX1_letMonkWork_32 : decode cX1_letMonkWork 32 = .ok (.getfield 83, 3) := by decide +kernel
theorem dX1_letMonkWork_35 : decode cX1_letMonkWork 35 = .ok (.invokevirtual 48, 3) := by decide +kernel
theorem dX1_letMonkWork_38 : decode cX1_letMonkWork 38 = .ok (.astore 4, 2) := by decide +kernel
theorem dX1_letMonkWork_40 : decode cX1_letMonkWork 40 = .ok (.aload_n 2, 1) := by decide +kernel
theorem dX1_letMonkWork_41 : decode cX1_letMonkWork 41 = .ok (.getfield 140, 3) := by decide +kernel
theorem dX1_letMonkWork_44 : decode cX1_letMonkWork 44 = .ok (.iconst 1, 1) := by decide +kernel
theorem dX1_letMonkWork_45 : decode cX1_letMonkWork 45 = .ok (.iadd, 1) := by decide +kernel
theorem dX1_letMonkWork_46 : decode cX1_letMonkWork 46 = .ok (.istore 5, 2) := by decide +kernel
theorem dX1_letMonkWork_48 : decode cX1_letMonkWork 48 = .ok (.iconst 0, 1) := by decide +kernel
theorem dX1_letMonkWork_49 : decode cX1_letMonkWork 49 = .ok (.istore 6, 2) := by decide +kernel
theorem dX1_letMonkWork_51 : decode cX1_letMonkWork 51 = .ok (.iconst 0, 1) := by decide +kernel
theorem dX1_letMonkWork_52 : decode cX1_letMonkWork 52 = .ok (.istore 7, 2) := by decide +kernel
theorem dX1_letMonkWork_54 : decode cX1_letMonkWork 54 = .ok (.iload 7, 2) := by decide +kernel
theorem dX1_letMonkWork_56 : decode cX1_letMonkWork 56 = .ok (.bipush 10, 2) := by decide +kernel
theorem dX1_letMonkWork_58 : decode cX1_letMonkWork 58 = .ok (.if_icmp .ge 73, 3) := by decide +kernel
theorem dX1_letMonkWork_61 : decode cX1_letMonkWork 61 = .ok (.iload 6, 2) := by decide +kernel
theorem dX1_letMonkWork_63 : decode cX1_letMonkWork 63 = .ok (.aload_n 2, 1) := by decide +kernel
theorem dX1_letMonkWork_64 : decode cX1_letMonkWork 64 = .ok (.getfield 86, 3) := by decide +kernel
theorem dX1_letMonkWork_67 : decode cX1_letMonkWork 67 = .ok (.if_icmp .ge 64, 3) := by decide +kernel
theorem dX1_letMonkWork_70 : decode cX1_letMonkWork 70 = .ok (.aload 4, 2) := by decide +kernel
theorem dX1_letMonkWork_72 : decode cX1_letMonkWork 72 = .ok (.ifnull 59, 3) := by decide +kernel
theorem dX1_letMonkWork_75 : decode cX1_letMonkWork 75 = .ok (.iload 5, 2) := by decide +kernel
theorem dX1_letMonkWork_77 : decode cX1_letMonkWork 77 = .ok (.iload 7, 2) := by decide +kernel
theorem dX1_letMonkWork_79 : decode cX1_letMonkWork 79 = .ok (.iadd, 1) := by decide +kernel
theorem dX1_letMonkWork_80 : decode cX1_letMonkWork 80 = .ok (.bipush 10, 2) := by decide +kernel
theorem dX1_letMonkWork_82 : decode cX1_letMonkWork 82 = .ok (.irem, 1) := by decide +kernel
theorem dX1_letMonkWork_83 : decode cX1_letMonkWork 83 = .ok (.istore 8, 2) := by decide +kernel
theorem dX1_letMonkWork_85 : decode cX1_letMonkWork 85 = .ok (.aload_n 0, 1) := by decide +kernel
theorem dX1_letMonkWork_86 : decode cX1_letMonkWork 86 = .ok (.aload 4, 2) := by decide +kernel
theorem dX1_letMonkWork_88 : decode cX1_letMonkWork 88 = .ok (.iload 8, 2) := by decide +kernel
theorem dX1_letMonkWork_90 : decode cX1_letMonkWork 90 = .ok (.invokevirtual 143, 3) := by decide +kernel
theorem dX1_letMonkWork_93 : decode cX1_letMonkWork 93 = .ok (.invokevirtual 105, 3) := by decide +kernel
theorem dX1_letMonkWork_96 : decode cX1_letMonkWork 96 = .ok (.astore 9, 2) := by decide +kernel
theorem dX1_letMonkWork_98 : decode cX1_letMonkWork 98 = .ok (.aload 9, 2) := by decide +kernel
theorem dX1_letMonkWork_100 : decode cX1_letMonkWork 100 = .ok (.ifnull 25, 3) := by decide +kernel
theorem dX1_letMonkWork_103 : decode cX1_letMonkWork 103 = .ok (.aload 9, 2) := by decide +kernel
theorem dX1_letMonkWork_105 : decode cX1_letMonkWork 105 = .ok (.iload_n 3, 1) := by decide +kernel
theorem dX1_letMonkWork_106 : decode cX1_letMonkWork 106 = .ok (.invokevirtual 146, 3) := by decide +kernel
theorem dX1_letMonkWork_109 : decode cX1_letMonkWork 109 = .ok (.aload_n 2, 1) := by decide +kernel
theorem dX1_letMonkWork_110 : decode cX1_letMonkWork 110 = .ok (.iload_n 1, 1) := by decide +kernel
theorem dX1_letMonkWork_111 : decode cX1_letMonkWork 111 = .ok (.aload 9, 2) := by decide +kernel
theorem dX1_letMonkWork_113 : decode cX1_letMonkWork 113 = .ok (.invokestatic 149, 3) := by decide +kernel
theorem dX1_letMonkWork_116 : decode cX1_letMonkWork 116 = .ok (.aload_n 2, 1) := by decide +kernel
theorem dX1_letMonkWork_117 : decode cX1_letMonkWork 117 = .ok (.iload 8, 2) := by decide +kernel
theorem dX1_letMonkWork_119 : decode cX1_letMonkWork 119 = .ok (.putfield 140, 3) := by decide +kernel
theorem dX1_letMonkWork_122 : decode cX1_letMonkWork 122 = .ok (.iinc 6 1, 3) := by decide +kernel
theorem dX1_letMonkWork_125 : decode cX1_letMonkWork 125 = .ok (.iinc 7 1, 3) := by decide +kernel
theorem dX1_letMonkWork_128 : decode cX1_letMonkWork 128 = .ok (.goto (-74), 3) := by decide +kernel
theorem dX1_letMonkWork_131 : decode cX1_letMonkWork 131 = .ok (.return_, 1) := by decide +kernel
theorem dX1_touch_0 : decode cX1_touch 0 = .ok (.aload_n 0, 1) := by decide +kernel
theorem dX1_touch_1 : decode cX1_touch 1 = .ok (.ifnull 7, 3) := by decide +kernel
theorem dX1_touch_4 : decode cX1_touch 4 = .ok (.aload_n 2, 1) := by decide +kernel
theorem dX1_touch_5 : decode cX1_touch 5 = .ok (.ifnonnull 4, 3) := by decide +kernel
theorem dX1_touch_8 : decode cX1_touch 8 = .ok (.return_, 1) := by decide +kernel
theorem dX1_touch_9 : decode cX1_touch 9 = .ok (.aload_n 2, 1) := by decide +kernel
theorem dX1_touch_10 : decode cX1_touch 10 = .ok (.getfield 153, 3) := by decide +kernel
theorem dX1_touch_13 : decode cX1_touch 13 = .ok (.iconst 4, 1) := by decide +kernel
theorem dX1_touch_14 : decode cX1_touch 14 = .ok (.if_icmp .lt 14, 3) := by decide +kernel
theorem dX1_touch_17 : decode cX1_touch 17 = .ok (.aload_n 0, 1) := by decide +kernel
theorem dX1_touch_18 : decode cX1_touch 18 = .ok (.aload_n 2, 1) := by decide +kernel
theorem dX1_touch_19 : decode cX1_touch 19 = .ok (.getfield 108, 3) := by decide +kernel
theorem dX1_touch_22 : decode cX1_touch 22 = .ok (.putfield 139, 3) := by decide +kernel
theorem dX1_touch_25 : decode cX1_touch 25 = .ok (.goto 29, 3) := by decide +kernel
theorem dX1_touch_28 : decode cX1_touch 28 = .ok (.aload_n 0, 1) := by decide +kernel
theorem dX1_touch_29 : decode cX1_touch 29 = .ok (.getfield 139, 3) := by decide +kernel
theorem dX1_touch_32 : decode cX1_touch 32 = .ok (.ifCond .eq 22, 3) := by decide +kernel
theorem dX1_touch_35 : decode cX1_touch 35 = .ok (.aload_n 2, 1) := by decide +kernel
theorem dX1_touch_36 : decode cX1_touch 36 = .ok (.invokevirtual 156, 3) := by decide +kernel
theorem dX1_touch_39 : decode cX1_touch 39 = .ok (.ifCond .eq 15, 3) := by decide +kernel
theorem dX1_touch_42 : decode cX1_touch 42 = .ok (.aload_n 2, 1) := by decide +kernel
theorem dX1_touch_43 : decode cX1_touch 43 = .ok (.aload_n 0, 1) := by decide +kernel
theorem dX1_touch_44 : decode cX1_touch 44 = .ok (.getfield 139, 3) := by decide +kernel
theorem dX1_touch_47 : decode cX1_touch 47 = .ok (.bipush 100, 2) := by decide +kernel
theorem dX1_touch_49 : decode cX1_touch 49 = .ok (.iload_n 1, 1) := by decide +kernel
theorem dX1_touch_50 : decode cX1_touch 50 = .ok (.iadd, 1) := by decide +kernel
theorem dX1_touch_51 : decode cX1_touch 51 = .ok (.invokevirtual 160, 3) := by decide +kernel
theorem dX1_touch_54 : decode cX1_touch 54 = .ok (.return_, 1) := by decide +kernel
theorem dX1_letMouldsLeap_0 : decode cX1_letMouldsLeap 0 = .ok (.iconst 0, 1) := by decide +kernel
theorem dX1_letMouldsLeap_1 : decode cX1_letMouldsLeap 1 = .ok (.istore_n 1, 1) := by decide +kernel
theorem dX1_letMouldsLeap_2 : decode cX1_letMouldsLeap 2 = .ok (.iload_n 1, 1) := by decide +kernel
theorem dX1_letMouldsLeap_3 : decode cX1_letMouldsLeap 3 = .ok (.bipush 24, 2) := by decide +kernel
theorem dX1_letMouldsLeap_5 : decode cX1_letMouldsLeap 5 = .ok (.if_icmp .ge 103, 3) := by decide +kernel
theorem dX1_letMouldsLeap_8 : decode cX1_letMouldsLeap 8 = .ok (.aload_n 0, 1) := by decide +kernel
theorem dX1_letMouldsLeap_9 : decode cX1_letMouldsLeap 9 = .ok (.iload_n 1, 1) := by decide +kernel
theorem dX1_letMouldsLeap_10 : decode cX1_letMouldsLeap 10 = .ok (.invokevirtual 105, 3) := by decide +kernel
theorem dX1_letMouldsLeap_13 : decode cX1_letMouldsLeap 13 = .ok (.astore_n 2, 1) := by decide +kernel
theorem dX1_letMouldsLeap_14 : decode cX1_letMouldsLeap 14 = .ok (.aload_n 2, 1) := by decide +kernel
theorem dX1_letMouldsLeap_15 : decode cX1_letMouldsLeap 15 = .ok (.ifnonnull 7, 3) := by decide +kernel
theorem dX1_letMouldsLeap_18 : decode cX1_letMouldsLeap 18 = .ok (.aconst_null, 1) := by decide +kernel
theorem dX1_letMouldsLeap_19 : decode cX1_letMouldsLeap 19 = .ok (.goto 11, 3) := by decide +kernel
theorem dX1_letMouldsLeap_22 : decode cX1_letMouldsLeap 22 = .ok (.aload_n 0, 1) := by decide +kernel
theorem dX1_letMouldsLeap_23 : decode cX1_letMouldsLeap 23 = .ok (.aload_n 2, 1) := by decide +kernel
theorem dX1_letMouldsLeap_24 : decode cX1_letMouldsLeap 24 = .ok (.getfield 93, 3) := by decide +kernel
theorem dX1_letMouldsLeap_27 : decode cX1_letMouldsLeap 27 = .ok (.invokevirtual 48, 3) := by decide +kernel
theorem dX1_letMouldsLeap_30 : decode cX1_letMouldsLeap 30 = .ok (.astore_n 3, 1) := by decide +kernel
theorem dX1_letMouldsLeap_31 : decode cX1_letMouldsLeap 31 = .ok (.aload_n 2, 1) := by decide +kernel
theorem dX1_letMouldsLeap_32 : decode cX1_letMouldsLeap 32 = .ok (.ifnull 70, 3) := by decide +kernel
theorem dX1_letMouldsLeap_35 : decode cX1_letMouldsLeap 35 = .ok (.aload_n 3, 1) := by decide +kernel
theorem dX1_letMouldsLeap_36 : decode cX1_letMouldsLeap 36 = .ok (.ifnull 66, 3) := by decide +kernel
theorem dX1_letMouldsLeap_39 : decode cX1_letMouldsLeap 39 = .ok (.aload_n 2, 1) := by decide +kernel
theorem dX1_letMouldsLeap_40 : decode cX1_letMouldsLeap 40 = .ok (.invokevirtual 156, 3) := by decide +kernel
theorem dX1_letMouldsLeap_43 : decode cX1_letMouldsLeap 43 = .ok (.ifCond .eq 59, 3) := by decide +kernel
theorem dX1_letMouldsLeap_46 : decode cX1_letMouldsLeap 46 = .ok (.aload_n 0, 1) := by decide +kernel
theorem dX1_letMouldsLeap_47 : decode cX1_letMouldsLeap 47 = .ok (.aload_n 3, 1) := by decide +kernel
theorem dX1_letMouldsLeap_48 : decode cX1_letMouldsLeap 48 = .ok (.aload_n 2, 1) := by decide +kernel
theorem dX1_letMouldsLeap_49 : decode cX1_letMouldsLeap 49 = .ok (.getfield 94, 3) := by decide +kernel
theorem dX1_letMouldsLeap_52 : decode cX1_letMouldsLeap 52 = .ok (.iconst 1, 1) := by decide +kernel
theorem dX1_letMouldsLeap_53 : decode cX1_letMouldsLeap 53 = .ok (.isub, 1) := by decide +kernel
theorem dX1_letMouldsLeap_54 : decode cX1_letMouldsLeap 54 = .ok (.invokevirtual 163, 3) := by decide +kernel
theorem dX1_letMouldsLeap_57 : decode cX1_letMouldsLeap 57 = .ok (.istore 4, 2) := by decide +kernel
theorem dX1_letMouldsLeap_59 : decode cX1_letMouldsLeap 59 = .ok (.iload 4, 2) := by decide +kernel
theorem dX1_letMouldsLeap_61 : decode cX1_letMouldsLeap 61 = .ok (.iconst (-1), 1) := by decide +kernel
theorem dX1_letMouldsLeap_62 : decode cX1_letMouldsLeap 62 = .ok (.if_icmp .ne 16, 3) := by decide +kernel
theorem dX1_letMouldsLeap_65 : decode cX1_letMouldsLeap 65 = .ok (.aload_n 0, 1) := by decide +kernel
theorem dX1_letMouldsLeap_66 : decode cX1_letMouldsLeap 66 = .ok (.aload_n 3, 1) := by decide +kernel
theorem dX1_letMouldsLeap_67 : decode cX1_letMouldsLeap 67 = .ok (.aload_n 2, 1) := by decide +kernel
theorem dX1_letMouldsLeap_68 : decode cX1_letMouldsLeap 68 = .ok (.getfield 94, 3) := by decide +kernel
theorem dX1_letMouldsLeap_71 : decode cX1_letMouldsLeap 71 = .ok (.iconst 1, 1) := by decide +kernel
theorem dX1_letMouldsLeap_72 : decode cX1_letMouldsLeap 72 = .ok (.iadd, 1) := by decide +kernel
theorem dX1_letMouldsLeap_73 : decode cX1_letMouldsLeap 73 = .ok (.invokevirtual 163, 3) := by decide +kernel
theorem dX1_letMouldsLeap_76 : decode cX1_letMouldsLeap 76 = .ok (.istore 4, 2) := by decide +kernel
theorem dX1_letMouldsLeap_78 : decode cX1_letMouldsLeap 78 = .ok (.aload_n 0, 1) := by decide +kernel
theorem dX1_letMouldsLeap_79 : decode cX1_letMouldsLeap 79 = .ok (.iload 4, 2) := by decide +kernel
theorem dX1_letMouldsLeap_81 : decode cX1_letMouldsLeap 81 = .ok (.invokevirtual 105, 3) := by decide +kernel
theorem dX1_letMouldsLeap_84 : decode cX1_letMouldsLeap 84 = .ok (.astore 5, 2) := by decide +kernel
theorem dX1_letMouldsLeap_86 : decode cX1_letMouldsLeap 86 = .ok (.aload 5, 2) := by decide +kernel
theorem dX1_letMouldsLeap_88 : decode cX1_letMouldsLeap 88 = .ok (.ifnull 14, 3) := by decide +kernel
theorem dX1_letMouldsLeap_91 : decode cX1_letMouldsLeap 91 = .ok (.aload_n 2, 1) := by decide +kernel
theorem dX1_letMouldsLeap_92 : decode cX1_letMouldsLeap 92 = .ok (.aload 5, 2) := by decide +kernel
theorem dX1_letMouldsLeap_94 : decode cX1_letMouldsLeap 94 = .ok (.getfield 108, 3) := by decide +kernel
theorem dX1_letMouldsLeap_97 : decode cX1_letMouldsLeap 97 = .ok (.iload 4, 2) := by decide +kernel
theorem dX1_letMouldsLeap_99 : decode cX1_letMouldsLeap 99 = .ok (.invokevirtual 160, 3) := by decide +kernel
theorem dX1_letMouldsLeap_102 : decode cX1_letMouldsLeap 102 = .ok (.iinc 1 1, 3) := by decide +kernel
theorem dX1_letMouldsLeap_105 : decode cX1_letMouldsLeap 105 = .ok (.goto (-103), 3) := by decide +kernel
theorem dX1_letMouldsLeap_108 : decode cX1_letMouldsLeap 108 = .ok (.return_, 1) := by decide +kernel
theorem dX1_leapingWheelAt_0 : decode cX1_leapingWheelAt 0 = .ok (.aload_n 1, 1) := by decide +kernel
theorem dX1_leapingWheelAt_1 : decode cX1_leapingWheelAt 1 = .ok (.ifnonnull 5, 3) := by decide +kernel
theorem dX1_leapingWheelAt_4 : decode cX1_leapingWheelAt 4 = .ok (.iconst (-1), 1) := by decide +kernel
theorem dX1_leapingWheelAt_5 : decode cX1_leapingWheelAt 5 = .ok (.ireturn, 1) := by decide +kernel
theorem dX1_leapingWheelAt_6 : decode cX1_leapingWheelAt 6 = .ok (.aload_n 1, 1) := by decide +kernel
theorem dX1_leapingWheelAt_7 : decode cX1_leapingWheelAt 7 = .ok (.iload_n 2, 1) := by decide +kernel
theorem dX1_leapingWheelAt_8 : decode cX1_leapingWheelAt 8 = .ok (.invokevirtual 143, 3) := by decide +kernel
theorem dX1_leapingWheelAt_11 : decode cX1_leapingWheelAt 11 = .ok (.istore_n 3, 1) := by decide +kernel
theorem dX1_leapingWheelAt_12 : decode cX1_leapingWheelAt 12 = .ok (.aload_n 0, 1) := by decide +kernel
theorem dX1_leapingWheelAt_13 : decode cX1_leapingWheelAt 13 = .ok (.iload_n 3, 1) := by decide +kernel
theorem dX1_leapingWheelAt_14 : decode cX1_leapingWheelAt 14 = .ok (.invokevirtual 105, 3) := by decide +kernel
theorem dX1_leapingWheelAt_17 : decode cX1_leapingWheelAt 17 = .ok (.astore 4, 2) := by decide +kernel
theorem dX1_leapingWheelAt_19 : decode cX1_leapingWheelAt 19 = .ok (.aload 4, 2) := by decide +kernel
theorem dX1_leapingWheelAt_21 : decode cX1_leapingWheelAt 21 = .ok (.ifnull 19, 3) := by decide +kernel
theorem dX1_leapingWheelAt_24 : decode cX1_leapingWheelAt 24 = .ok (.aload 4, 2) := by decide +kernel
theorem dX1_leapingWheelAt_26 : decode cX1_leapingWheelAt 26 = .ok (.getfield 153, 3) := by decide +kernel
theorem dX1_leapingWheelAt_29 : decode cX1_leapingWheelAt 29 = .ok (.aload_n 1, 1) := by decide +kernel
theorem dX1_leapingWheelAt_30 : decode cX1_leapingWheelAt 30 = .ok (.invokevirtual 167, 3) := by decide +kernel
theorem dX1_leapingWheelAt_33 : decode cX1_leapingWheelAt 33 = .ok (.if_icmp .lt 7, 3) := by decide +kernel
theorem dX1_leapingWheelAt_36 : decode cX1_leapingWheelAt 36 = .ok (.iload_n 3, 1) := by decide +kernel
theorem dX1_leapingWheelAt_37 : decode cX1_leapingWheelAt 37 = .ok (.goto 4, 3) := by decide +kernel
theorem dX1_leapingWheelAt_40 : decode cX1_leapingWheelAt 40 = .ok (.iconst (-1), 1) := by decide +kernel
theorem dX1_leapingWheelAt_41 : decode cX1_leapingWheelAt 41 = .ok (.ireturn, 1) := by decide +kernel
theorem dX1_letWheelsAge_0 : decode cX1_letWheelsAge 0 = .ok (.iconst 0, 1) := by decide +kernel
theorem dX1_letWheelsAge_1 : decode cX1_letWheelsAge 1 = .ok (.istore_n 1, 1) := by decide +kernel
theorem dX1_letWheelsAge_2 : decode cX1_letWheelsAge 2 = .ok (.iload_n 1, 1) := by decide +kernel
theorem dX1_letWheelsAge_3 : decode cX1_letWheelsAge 3 = .ok (.bipush 24, 2) := by decide +kernel
theorem dX1_letWheelsAge_5 : decode cX1_letWheelsAge 5 = .ok (.if_icmp .ge 65, 3) := by decide +kernel
theorem dX1_letWheelsAge_8 : decode cX1_letWheelsAge 8 = .ok (.aload_n 0, 1) := by decide +kernel
theorem dX1_letWheelsAge_9 : decode cX1_letWheelsAge 9 = .ok (.iload_n 1, 1) := by decide +kernel
theorem dX1_letWheelsAge_10 : decode cX1_letWheelsAge 10 = .ok (.invokevirtual 105, 3) := by decide +kernel
theorem dX1_letWheelsAge_13 : decode cX1_letWheelsAge 13 = .ok (.astore_n 2, 1) := by decide +kernel
theorem dX1_letWheelsAge_14 : decode cX1_letWheelsAge 14 = .ok (.aload_n 2, 1) := by decide +kernel
theorem dX1_letWheelsAge_15 : decode cX1_letWheelsAge 15 = .ok (.ifnonnull 7, 3) := by decide +kernel
theorem dX1_letWheelsAge_18 : decode cX1_letWheelsAge 18 = .ok (.aconst_null, 1) := by decide +kernel
theorem dX1_letWheelsAge_19 : decode cX1_letWheelsAge 19 = .ok (.goto 11, 3) := by decide +kernel
theorem dX1_letWheelsAge_22 : decode cX1_letWheelsAge 22 = .ok (.aload_n 0, 1) := by decide +kernel
theorem dX1_letWheelsAge_23 : decode cX1_letWheelsAge 23 = .ok (.aload_n 2, 1) := by decide +kernel
theorem dX1_letWheelsAge_24 : decode cX1_letWheelsAge 24 = .ok (.getfield 93, 3) := by decide +kernel
theorem dX1_letWheelsAge_27 : decode cX1_letWheelsAge 27 = .ok (.invokevirtual 48, 3) := by decide +kernel
theorem dX1_letWheelsAge_30 : decode cX1_letWheelsAge 30 = .ok (.astore_n 3, 1) := by decide +kernel
theorem dX1_letWheelsAge_31 : decode cX1_letWheelsAge 31 = .ok (.aload_n 2, 1) := by decide +kernel
theorem dX1_letWheelsAge_32 : decode cX1_letWheelsAge 32 = .ok (.ifnull 32, 3) := by decide +kernel
theorem dX1_letWheelsAge_35 : decode cX1_letWheelsAge 35 = .ok (.aload_n 3, 1) := by decide +kernel
theorem dX1_letWheelsAge_36 : decode cX1_letWheelsAge 36 = .ok (.ifnull 28, 3) := by decide +kernel
theorem dX1_letWheelsAge_39 : decode cX1_letWheelsAge 39 = .ok (.aload_n 2, 1) := by decide +kernel
theorem dX1_letWheelsAge_40 : decode cX1_letWheelsAge 40 = .ok (.aload_n 3, 1) := by decide +kernel
theorem dX1_letWheelsAge_41 : decode cX1_letWheelsAge 41 = .ok (.getfield 73, 3) := by decide +kernel
theorem dX1_letWheelsAge_44 : decode cX1_letWheelsAge 44 = .ok (.aload_n 3, 1) := by decide +kernel
theorem dX1_letWheelsAge_45 : decode cX1_letWheelsAge 45 = .ok (.getfield 76, 3) := by decide +kernel
theorem dX1_letWheelsAge_48 : decode cX1_letWheelsAge 48 = .ok (.invokevirtual 170, 3) := by decide +kernel
theorem dX1_letWheelsAge_51 : decode cX1_letWheelsAge 51 = .ok (.aload_n 2, 1) := by decide +kernel
theorem dX1_letWheelsAge_52 : decode cX1_letWheelsAge 52 = .ok (.invokevirtual 173, 3) := by decide +kernel
theorem dX1_letWheelsAge_55 : decode cX1_letWheelsAge 55 = .ok (.ifCond .eq 9, 3) := by decide +kernel
theorem dX1_letWheelsAge_58 : decode cX1_letWheelsAge 58 = .ok (.aload_n 0, 1) := by decide +kernel
theorem dX1_letWheelsAge_59 : decode cX1_letWheelsAge 59 = .ok (.iload_n 1, 1) := by decide +kernel
theorem dX1_letWheelsAge_60 : decode cX1_letWheelsAge 60 = .ok (.iconst 2, 1) := by decide +kernel
theorem dX1_letWheelsAge_61 : decode cX1_letWheelsAge 61 = .ok (.invokevirtual 176, 3) := by decide +kernel
theorem dX1_letWheelsAge_64 : decode cX1_letWheelsAge 64 = .ok (.iinc 1 1, 3) := by decide +kernel
theorem dX1_letWheelsAge_67 : decode cX1_letWheelsAge 67 = .ok (.goto (-65), 3) := by decide +kernel
theorem dX1_letWheelsAge_70 : decode cX1_letWheelsAge 70 = .ok (.return_, 1) := by decide +kernel
theorem dX2_init_0 : decode cX2_init 0 = .ok (.aload_n 0, 1) := by decide +kernel
theorem dX2_init_1 : decode cX2_init 1 = .ok (.invokespecial 3, 3) := by decide +kernel
theorem dX2_init_4 : decode cX2_init 4 = .ok (.aload_n 0, 1) := by decide +kernel
theorem dX2_init_5 : decode cX2_init 5 = .ok (.iconst (-1), 1) := by decide +kernel
theorem dX2_init_6 : decode cX2_init 6 = .ok (.putfield 9, 3) := by decide +kernel
theorem dX2_init_9 : decode cX2_init 9 = .ok (.aload_n 0, 1) := by decide +kernel
theorem dX2_init_10 : decode cX2_init 10 = .ok (.iconst 0, 1) := by decide +kernel
theorem dX2_init_11 : decode cX2_init 11 = .ok (.putfield 15, 3) := by decide +kernel
theorem dX2_init_14 : decode cX2_init 14 = .ok (.aload_n 0, 1) := by decide +kernel
theorem dX2_init_15 : decode cX2_init 15 = .ok (.iconst 0, 1) := by decide +kernel
theorem dX2_init_16 : decode cX2_init 16 = .ok (.putfield 18, 3) := by decide +kernel
theorem dX2_init_19 : decode cX2_init 19 = .ok (.aload_n 0, 1) := by decide +kernel
theorem dX2_init_20 : decode cX2_init 20 = .ok (.iconst (-1), 1) := by decide +kernel
theorem dX2_init_21 : decode cX2_init 21 = .ok (.putfield 21, 3) := by decide +kernel
theorem dX2_init_24 : decode cX2_init 24 = .ok (.aload_n 0, 1) := by decide +kernel
theorem dX2_init_25 : decode cX2_init 25 = .ok (.bipush 7, 2) := by decide +kernel
theorem dX2_init_27 : decode cX2_init 27 = .ok (.newarray .int, 2) := by decide +kernel
theorem dX2_init_29 : decode cX2_init 29 = .ok (.putfield 24, 3) := by decide +kernel
theorem dX2_init_32 : decode cX2_init 32 = .ok (.return_, 1) := by decide +kernel
theorem dX2_copyFrom_0 : decode cX2_copyFrom 0 = .ok (.aload_n 1, 1) := by decide +kernel
theorem dX2_copyFrom_1 : decode cX2_copyFrom 1 = .ok (.ifnonnull 4, 3) := by decide +kernel
theorem dX2_copyFrom_4 : decode cX2_copyFrom 4 = .ok (.return_, 1) := by decide +kernel
theorem dX2_copyFrom_5 : decode cX2_copyFrom 5 = .ok (.aload_n 0, 1) := by decide +kernel
theorem dX2_copyFrom_6 : decode cX2_copyFrom 6 = .ok (.aload_n 1, 1) := by decide +kernel
theorem dX2_copyFrom_7 : decode cX2_copyFrom 7 = .ok (.getfield 9, 3) := by decide +kernel
theorem dX2_copyFrom_10 : decode cX2_copyFrom 10 = .ok (.putfield 9, 3) := by decide +kernel
theorem dX2_copyFrom_13 : decode cX2_copyFrom 13 = .ok (.aload_n 0, 1) := by decide +kernel
theorem dX2_copyFrom_14 : decode cX2_copyFrom 14 = .ok (.aload_n 1, 1) := by decide +kernel
theorem dX2_copyFrom_15 : decode cX2_copyFrom 15 = .ok (.getfield 15, 3) := by decide +kernel
theorem dX2_copyFrom_18 : decode cX2_copyFrom 18 = .ok (.putfield 15, 3) := by decide +kernel
theorem dX2_copyFrom_21 : decode cX2_copyFrom 21 = .ok (.aload_n 0, 1) := by decide +kernel
theorem dX2_copyFrom_22 : decode cX2_copyFrom 22 = .ok (.aload_n 1, 1) := by decide +kernel
theorem dX2_copyFrom_23 : decode cX2_copyFrom 23 = .ok (.getfield 18, 3) := by decide +kernel
theorem dX2_copyFrom_26 : decode cX2_copyFrom 26 = .ok (.putfield 18, 3) := by decide +kernel
theorem dX2_copyFrom_29 : decode cX2_copyFrom 29 = .ok (.aload_n 0, 1) := by decide +kernel
theorem dX2_copyFrom_30 : decode cX2_copyFrom 30 = .ok (.aload_n 1, 1) := by decide +kernel
theorem dX2_copyFrom_31 : decode cX2_copyFrom 31 = .ok (.getfield 21, 3) := by decide +kernel
theorem dX2_copyFrom_34 : decode cX2_copyFrom 34 = .ok (.putfield 21, 3) := by decide +kernel
theorem dX2_copyFrom_37 : decode cX2_copyFrom 37 = .ok (.iconst 0, 1) := by decide +kernel
theorem dX2_copyFrom_38 : decode cX2_copyFrom 38 = .ok (.istore_n 2, 1) := by decide +kernel
theorem dX2_copyFrom_39 : decode cX2_copyFrom 39 = .ok (.iload_n 2, 1) := by decide +kernel
theorem dX2_copyFrom_40 : decode cX2_copyFrom 40 = .ok (.aload_n 0, 1) := by decide +kernel
theorem dX2_copyFrom_41 : decode cX2_copyFrom 41 = .ok (.getfield 24, 3) := by decide +kernel
theorem dX2_copyFrom_44 : decode cX2_copyFrom 44 = .ok (.arraylength, 1) := by decide +kernel
theorem dX2_copyFrom_45 : decode cX2_copyFrom 45 = .ok (.if_icmp .ge 20, 3) := by decide +kernel
theorem dX2_copyFrom_48 : decode cX2_copyFrom 48 = .ok (.aload_n 0, 1) := by decide +kernel
theorem dX2_copyFrom_49 : decode cX2_copyFrom 49 = .ok (.getfield 24, 3) := by decide +kernel
theorem dX2_copyFrom_52 : decode cX2_copyFrom 52 = .ok (.iload_n 2, 1) := by decide +kernel
theorem dX2_copyFrom_53 : decode cX2_copyFrom 53 = .ok (.aload_n 1, 1) := by decide +kernel
theorem dX2_copyFrom_54 : decode cX2_copyFrom 54 = .ok (.iload_n 2, 1) := by decide +kernel
theorem dX2_copyFrom_55 : decode cX2_copyFrom 55 = .ok (.invokevirtual 28, 3) := by decide +kernel
theorem dX2_copyFrom_58 : decode cX2_copyFrom 58 = .ok (.iastore, 1) := by decide +kernel
theorem dX2_copyFrom_59 : decode cX2_copyFrom 59 = .ok (.iinc 2 1, 3) := by decide +kernel
theorem dX2_copyFrom_62 : decode cX2_copyFrom 62 = .ok (.goto (-23), 3) := by decide +kernel
theorem dX2_copyFrom_65 : decode cX2_copyFrom 65 = .ok (.return_, 1) := by decide +kernel
theorem dX2_workOn_0 : decode cX2_workOn 0 = .ok (.iload_n 1, 1) := by decide +kernel
theorem dX2_workOn_1 : decode cX2_workOn 1 = .ok (.bipush 7, 2) := by decide +kernel
theorem dX2_workOn_3 : decode cX2_workOn 3 = .ok (.invokestatic 32, 3) := by decide +kernel
theorem dX2_workOn_6 : decode cX2_workOn 6 = .ok (.istore_n 2, 1) := by decide +kernel
theorem dX2_workOn_7 : decode cX2_workOn 7 = .ok (.iload_n 2, 1) := by decide +kernel
theorem dX2_workOn_8 : decode cX2_workOn 8 = .ok (.ifCond .lt 21, 3) := by decide +kernel
theorem dX2_workOn_11 : decode cX2_workOn 11 = .ok (.iload_n 2, 1) := by decide +kernel
theorem dX2_workOn_12 : decode cX2_workOn 12 = .ok (.aload_n 0, 1) := by decide +kernel
theorem dX2_workOn_13 : decode cX2_workOn 13 = .ok (.getfield 24, 3) := by decide +kernel
theorem dX2_workOn_16 : decode cX2_workOn 16 = .ok (.arraylength, 1) := by decide +kernel
theorem dX2_workOn_17 : decode cX2_workOn 17 = .ok (.if_icmp .ge 12, 3) := by decide +kernel
theorem dX2_workOn_20 : decode cX2_workOn 20 = .ok (.aload_n 0, 1) := by decide +kernel
theorem dX2_workOn_21 : decode cX2_workOn 21 = .ok (.getfield 24, 3) := by decide +kernel
theorem dX2_workOn_24 : decode cX2_workOn 24 = .ok (.iload_n 2, 1) := by decide +kernel
theorem dX2_workOn_25 : decode cX2_workOn 25 = .ok (.iaload, 1) := by decide +kernel
theorem dX2_workOn_26 : decode cX2_workOn 26 = .ok (.goto 4, 3) := by decide +kernel
theorem dX2_workOn_29 : decode cX2_workOn 29 = .ok (.iconst 0, 1) := by decide +kernel
theorem dX2_workOn_30 : decode cX2_workOn 30 = .ok (.ireturn, 1) := by decide +kernel
theorem dX2_putWork_0 : decode cX2_putWork 0 = .ok (.iload_n 1, 1) := by decide +kernel
theorem dX2_putWork_1 : decode cX2_putWork 1 = .ok (.ifCond .lt 19, 3) := by decide +kernel
theorem dX2_putWork_4 : decode cX2_putWork 4 = .ok (.iload_n 1, 1) := by decide +kernel
theorem dX2_putWork_5 : decode cX2_putWork 5 = .ok (.aload_n 0, 1) := by decide +kernel
theorem dX2_putWork_6 : decode cX2_putWork 6 = .ok (.getfield 24, 3) := by decide +kernel
theorem dX2_putWork_9 : decode cX2_putWork 9 = .ok (.arraylength, 1) := by decide +kernel
theorem dX2_putWork_10 : decode cX2_putWork 10 = .ok (.if_icmp .ge 10, 3) := by decide +kernel
theorem dX2_putWork_13 : decode cX2_putWork 13 = .ok (.aload_n 0, 1) := by decide +kernel
theorem dX2_putWork_14 : decode cX2_putWork 14 = .ok (.getfield 24, 3) := by decide +kernel
theorem dX2_putWork_17 : decode cX2_putWork 17 = .ok (.iload_n 1, 1) := by decide +kernel
theorem dX2_putWork_18 : decode cX2_putWork 18 = .ok (.iload_n 2, 1) := by decide +kernel
theorem dX2_putWork_19 : decode cX2_putWork 19 = .ok (.iastore, 1) := by decide +kernel
theorem dX2_putWork_20 : decode cX2_putWork 20 = .ok (.return_, 1) := by decide +kernel
theorem dX2_fact_0 : decode cX2_fact 0 = .ok (.iload_n 1, 1) := by decide +kernel
theorem dX2_fact_1 : decode cX2_fact 1 = .ok (.tableswitch 51 0 3 #[31, 36, 41, 46], 31) := by decide +kernel
theorem dX2_fact_32 : decode cX2_fact 32 = .ok (.aload_n 0, 1) := by decide +kernel
theorem dX2_fact_33 : decode cX2_fact 33 = .ok (.getfield 9, 3) := by decide +kernel
theorem dX2_fact_36 : decode cX2_fact 36 = .ok (.ireturn, 1) := by decide +kernel
theorem dX2_fact_37 : decode cX2_fact 37 = .ok (.aload_n 0, 1) := by decide +kernel
theorem dX2_fact_38 : decode cX2_fact 38 = .ok (.getfield 15, 3) := by decide +kernel
theorem dX2_fact_41 : decode cX2_fact 41 = .ok (.ireturn, 1) := by decide +kernel
theorem dX2_fact_42 : decode cX2_fact 42 = .ok (.aload_n 0, 1) := by decide +kernel
theorem dX2_fact_43 : decode cX2_fact 43 = .ok (.getfield 18, 3) := by decide +kernel
theorem dX2_fact_46 : decode cX2_fact 46 = .ok (.ireturn, 1) := by decide +kernel
theorem dX2_fact_47 : decode cX2_fact 47 = .ok (.aload_n 0, 1) := by decide +kernel
theorem dX2_fact_48 : decode cX2_fact 48 = .ok (.getfield 21, 3) := by decide +kernel
theorem dX2_fact_51 : decode cX2_fact 51 = .ok (.ireturn, 1) := by decide +kernel
theorem dX2_fact_52 : decode cX2_fact 52 = .ok (.aload_n 0, 1) := by decide +kernel
theorem dX2_fact_53 : decode cX2_fact 53 = .ok (.iload_n 2, 1) := by decide +kernel
theorem dX2_fact_54 : decode cX2_fact 54 = .ok (.invokevirtual 28, 3) := by decide +kernel
theorem dX2_fact_57 : decode cX2_fact 57 = .ok (.ireturn, 1) := by decide +kernel
theorem dX3_init_0 : decode cX3_init 0 = .ok (.aload_n 0, 1) := by decide +kernel
theorem dX3_init_1 : decode cX3_init 1 = .ok (.invokespecial 3, 3) := by decide +kernel
theorem dX3_init_4 : decode cX3_init 4 = .ok (.aload_n 0, 1) := by decide +kernel
theorem dX3_init_5 : decode cX3_init 5 = .ok (.iconst 0, 1) := by decide +kernel
theorem dX3_init_6 : decode cX3_init 6 = .ok (.putfield 9, 3) := by decide +kernel
theorem dX3_init_9 : decode cX3_init 9 = .ok (.aload_n 0, 1) := by decide +kernel
theorem dX3_init_10 : decode cX3_init 10 = .ok (.iconst (-1), 1) := by decide +kernel
theorem dX3_init_11 : decode cX3_init 11 = .ok (.putfield 15, 3) := by decide +kernel
theorem dX3_init_14 : decode cX3_init 14 = .ok (.aload_n 0, 1) := by decide +kernel
theorem dX3_init_15 : decode cX3_init 15 = .ok (.iconst (-1), 1) := by decide +kernel
theorem dX3_init_16 : decode cX3_init 16 = .ok (.putfield 18, 3) := by decide +kernel
theorem dX3_init_19 : decode cX3_init 19 = .ok (.aload_n 0, 1) := by decide +kernel
theorem dX3_init_20 : decode cX3_init 20 = .ok (.iconst 0, 1) := by decide +kernel
theorem dX3_init_21 : decode cX3_init 21 = .ok (.putfield 21, 3) := by decide +kernel
theorem dX3_init_24 : decode cX3_init 24 = .ok (.aload_n 0, 1) := by decide +kernel
theorem dX3_init_25 : decode cX3_init 25 = .ok (.iconst 0, 1) := by decide +kernel
theorem dX3_init_26 : decode cX3_init 26 = .ok (.putfield 24, 3) := by decide +kernel
theorem dX3_init_29 : decode cX3_init 29 = .ok (.aload_n 0, 1) := by decide +kernel
theorem dX3_init_30 : decode cX3_init 30 = .ok (.bipush 80, 2) := by decide +kernel
theorem dX3_init_32 : decode cX3_init 32 = .ok (.putfield 27, 3) := by decide +kernel
theorem dX3_init_35 : decode cX3_init 35 = .ok (.aload_n 0, 1) := by decide +kernel
theorem dX3_init_36 : decode cX3_init 36 = .ok (.iconst 0, 1) := by decide +kernel
theorem dX3_init_37 : decode cX3_init 37 = .ok (.putfield 30, 3) := by decide +kernel
theorem dX3_init_40 : decode cX3_init 40 = .ok (.aload_n 0, 1) := by decide +kernel
theorem dX3_init_41 : decode cX3_init 41 = .ok (.iconst 0, 1) := by decide +kernel
theorem dX3_init_42 : decode cX3_init 42 = .ok (.putfield 33, 3) := by decide +kernel
theorem dX3_init_45 : decode cX3_init 45 = .ok (.aload_n 0, 1) := by decide +kernel
theorem dX3_init_46 : decode cX3_init 46 = .ok (.iconst 0, 1) := by decide +kernel
theorem dX3_init_47 : decode cX3_init 47 = .ok (.putfield 36, 3) := by decide +kernel
theorem dX3_init_50 : decode cX3_init 50 = .ok (.aload_n 0, 1) := by decide +kernel
theorem dX3_init_51 : decode cX3_init 51 = .ok (.iconst (-1), 1) := by decide +kernel
theorem dX3_init_52 : decode cX3_init 52 = .ok (.putfield 39, 3) := by decide +kernel
theorem dX3_init_55 : decode cX3_init 55 = .ok (.return_, 1) := by decide +kernel
theorem dX3_copyFrom_0 : decode cX3_copyFrom 0 = .ok (.aload_n 1, 1) := by decide +kernel
theorem dX3_copyFrom_1 : decode cX3_copyFrom 1 = .ok (.ifnonnull 4, 3) := by decide +kernel
theorem dX3_copyFrom_4 : decode cX3_copyFrom 4 = .ok (.return_, 1) := by decide +kernel
theorem dX3_copyFrom_5 : decode cX3_copyFrom 5 = .ok (.aload_n 0, 1) := by decide +kernel
theorem dX3_copyFrom_6 : decode cX3_copyFrom 6 = .ok (.aload_n 1, 1) := by decide +kernel
theorem dX3_copyFrom_7 : decode cX3_copyFrom 7 = .ok (.getfield 9, 3) := by decide +kernel
theorem dX3_copyFrom_10 : decode cX3_copyFrom 10 = .ok (.putfield 9, 3) := by decide +kernel
theorem dX3_copyFrom_13 : decode cX3_copyFrom 13 = .ok (.aload_n 0, 1) := by decide +kernel
theorem dX3_copyFrom_14 : decode cX3_copyFrom 14 = .ok (.aload_n 1, 1) := by decide +kernel
theorem dX3_copyFrom_15 : decode cX3_copyFrom 15 = .ok (.getfield 15, 3) := by decide +kernel
theorem dX3_copyFrom_18 : decode cX3_copyFrom 18 = .ok (.putfield 15, 3) := by decide +kernel
theorem dX3_copyFrom_21 : decode cX3_copyFrom 21 = .ok (.aload_n 0, 1) := by decide +kernel
theorem dX3_copyFrom_22 : decode cX3_copyFrom 22 = .ok (.aload_n 1, 1) := by decide +kernel
theorem dX3_copyFrom_23 : decode cX3_copyFrom 23 = .ok (.getfield 18, 3) := by decide +kernel
theorem dX3_copyFrom_26 : decode cX3_copyFrom 26 = .ok (.putfield 18, 3) := by decide +kernel
theorem dX3_copyFrom_29 : decode cX3_copyFrom 29 = .ok (.aload_n 0, 1) := by decide +kernel
theorem dX3_copyFrom_30 : decode cX3_copyFrom 30 = .ok (.aload_n 1, 1) := by decide +kernel
theorem dX3_copyFrom_31 : decode cX3_copyFrom 31 = .ok (.getfield 21, 3) := by decide +kernel
theorem dX3_copyFrom_34 : decode cX3_copyFrom 34 = .ok (.putfield 21, 3) := by decide +kernel
theorem dX3_copyFrom_37 : decode cX3_copyFrom 37 = .ok (.aload_n 0, 1) := by decide +kernel
theorem dX3_copyFrom_38 : decode cX3_copyFrom 38 = .ok (.aload_n 1, 1) := by decide +kernel
theorem dX3_copyFrom_39 : decode cX3_copyFrom 39 = .ok (.getfield 24, 3) := by decide +kernel
theorem dX3_copyFrom_42 : decode cX3_copyFrom 42 = .ok (.putfield 24, 3) := by decide +kernel
theorem dX3_copyFrom_45 : decode cX3_copyFrom 45 = .ok (.aload_n 0, 1) := by decide +kernel
theorem dX3_copyFrom_46 : decode cX3_copyFrom 46 = .ok (.aload_n 1, 1) := by decide +kernel
theorem dX3_copyFrom_47 : decode cX3_copyFrom 47 = .ok (.getfield 27, 3) := by decide +kernel
theorem dX3_copyFrom_50 : decode cX3_copyFrom 50 = .ok (.putfield 27, 3) := by decide +kernel
theorem dX3_copyFrom_53 : decode cX3_copyFrom 53 = .ok (.aload_n 0, 1) := by decide +kernel
theorem dX3_copyFrom_54 : decode cX3_copyFrom 54 = .ok (.aload_n 1, 1) := by decide +kernel
theorem dX3_copyFrom_55 : decode cX3_copyFrom 55 = .ok (.getfield 30, 3) := by decide +kernel
theorem dX3_copyFrom_58 : decode cX3_copyFrom 58 = .ok (.putfield 30, 3) := by decide +kernel
theorem dX3_copyFrom_61 : decode cX3_copyFrom 61 = .ok (.aload_n 0, 1) := by decide +kernel
theorem dX3_copyFrom_62 : decode cX3_copyFrom 62 = .ok (.aload_n 1, 1) := by decide +kernel
theorem dX3_copyFrom_63 : decode cX3_copyFrom 63 = .ok (.getfield 33, 3) := by decide +kernel
theorem dX3_copyFrom_66 : decode cX3_copyFrom 66 = .ok (.putfield 33, 3) := by decide +kernel
theorem dX3_copyFrom_69 : decode cX3_copyFrom 69 = .ok (.aload_n 0, 1) := by decide +kernel
theorem dX3_copyFrom_70 : decode cX3_copyFrom 70 = .ok (.aload_n 1, 1) := by decide +kernel
theorem dX3_copyFrom_71 : decode cX3_copyFrom 71 = .ok (.getfield 36, 3) := by decide +kernel
theorem dX3_copyFrom_74 : decode cX3_copyFrom 74 = .ok (.putfield 36, 3) := by decide +kernel
theorem dX3_copyFrom_77 : decode cX3_copyFrom 77 = .ok (.aload_n 0, 1) := by decide +kernel
theorem dX3_copyFrom_78 : decode cX3_copyFrom 78 = .ok (.aload_n 1, 1) := by decide +kernel
theorem dX3_copyFrom_79 : decode cX3_copyFrom 79 = .ok (.getfield 39, 3) := by decide +kernel
theorem dX3_copyFrom_82 : decode cX3_copyFrom 82 = .ok (.putfield 39, 3) := by decide +kernel
theorem dX3_copyFrom_85 : decode cX3_copyFrom 85 = .ok (.return_, 1) := by decide +kernel
theorem dX3_worth_0 : decode cX3_worth 0 = .ok (.aload_n 0, 1) := by decide +kernel
theorem dX3_worth_1 : decode cX3_worth 1 = .ok (.getfield 21, 3) := by decide +kernel
theorem dX3_worth_4 : decode cX3_worth 4 = .ok (.aload_n 0, 1) := by decide +kernel
theorem dX3_worth_5 : decode cX3_worth 5 = .ok (.getfield 27, 3) := by decide +kernel
theorem dX3_worth_8 : decode cX3_worth 8 = .ok (.bipush 40, 2) := by decide +kernel
theorem dX3_worth_10 : decode cX3_worth 10 = .ok (.isub, 1) := by decide +kernel
theorem dX3_worth_11 : decode cX3_worth 11 = .ok (.invokestatic 42, 3) := by decide +kernel
theorem dX3_worth_14 : decode cX3_worth 14 = .ok (.isub, 1) := by decide +kernel
theorem dX3_worth_15 : decode cX3_worth 15 = .ok (.istore_n 1, 1) := by decide +kernel
theorem dX3_worth_16 : decode cX3_worth 16 = .ok (.aload_n 0, 1) := by decide +kernel
theorem dX3_worth_17 : decode cX3_worth 17 = .ok (.getfield 33, 3) := by decide +kernel
theorem dX3_worth_20 : decode cX3_worth 20 = .ok (.iconst 2, 1) := by decide +kernel
theorem dX3_worth_21 : decode cX3_worth 21 = .ok (.if_icmp .ne 26, 3) := by decide +kernel
theorem dX3_worth_24 : decode cX3_worth 24 = .ok (.aload_n 0, 1) := by decide +kernel
theorem dX3_worth_25 : decode cX3_worth 25 = .ok (.getfield 36, 3) := by decide +kernel
theorem dX3_worth_28 : decode cX3_worth 28 = .ok (.iconst 3, 1) := by decide +kernel
theorem dX3_worth_29 : decode cX3_worth 29 = .ok (.if_icmp .lt 18, 3) := by decide +kernel
theorem dX3_worth_32 : decode cX3_worth 32 = .ok (.aload_n 0, 1) := by decide +kernel
theorem dX3_worth_33 : decode cX3_worth 33 = .ok (.getfield 36, 3) := by decide +kernel
theorem dX3_worth_36 : decode cX3_worth 36 = .ok (.bipush 6, 2) := by decide +kernel
theorem dX3_worth_38 : decode cX3_worth 38 = .ok (.if_icmp .gt 9, 3) := by decide +kernel
theorem dX3_worth_41 : decode cX3_worth 41 = .ok (.iinc 1 30, 3) := by decide +kernel
theorem dX3_worth_44 : decode cX3_worth 44 = .ok (.goto 28, 3) := by decide +kernel
theorem dX3_worth_47 : decode cX3_worth 47 = .ok (.aload_n 0, 1) := by decide +kernel
theorem dX3_worth_48 : decode cX3_worth 48 = .ok (.getfield 33, 3) := by decide +kernel
theorem dX3_worth_51 : decode cX3_worth 51 = .ok (.iconst 1, 1) := by decide +kernel
theorem dX3_worth_52 : decode cX3_worth 52 = .ok (.if_icmp .ne 9, 3) := by decide +kernel
theorem dX3_worth_55 : decode cX3_worth 55 = .ok (.iinc 1 10, 3) := by decide +kernel
theorem dX3_worth_58 : decode cX3_worth 58 = .ok (.goto 14, 3) := by decide +kernel
theorem dX3_worth_61 : decode cX3_worth 61 = .ok (.aload_n 0, 1) := by decide +kernel
theorem dX3_worth_62 : decode cX3_worth 62 = .ok (.getfield 33, 3) := by decide +kernel
theorem dX3_worth_65 : decode cX3_worth 65 = .ok (.iconst 3, 1) := by decide +kernel
theorem dX3_worth_66 : decode cX3_worth 66 = .ok (.if_icmp .ne 6, 3) := by decide +kernel
theorem dX3_worth_69 : decode cX3_worth 69 = .ok (.iinc 1 (-40), 3) := by decide +kernel
theorem dX3_worth_72 : decode cX3_worth 72 = .ok (.iload_n 1, 1) := by decide +kernel
theorem dX3_worth_73 : decode cX3_worth 73 = .ok (.iconst 0, 1) := by decide +kernel
theorem dX3_worth_74 : decode cX3_worth 74 = .ok (.invokestatic 48, 3) := by decide +kernel
theorem dX3_worth_77 : decode cX3_worth 77 = .ok (.ireturn, 1) := by decide +kernel
theorem dX3_canCatch_0 : decode cX3_canCatch 0 = .ok (.aload_n 0, 1) := by decide +kernel
theorem dX3_canCatch_1 : decode cX3_canCatch 1 = .ok (.getfield 33, 3) := by decide +kernel
theorem dX3_canCatch_4 : decode cX3_canCatch 4 = .ok (.ifCond .ne 16, 3) := by decide +kernel
theorem dX3_canCatch_7 : decode cX3_canCatch 7 = .ok (.aload_n 0, 1) := by decide +kernel
theorem dX3_canCatch_8 : decode cX3_canCatch 8 = .ok (.getfield 24, 3) := by decide +kernel
theorem dX3_canCatch_11 : decode cX3_canCatch 11 = .ok (.bipush 8, 2) := by decide +kernel
theorem dX3_canCatch_13 : decode cX3_canCatch 13 = .ok (.if_icmp .ge 7, 3) := by decide +kernel
theorem dX3_canCatch_16 : decode cX3_canCatch 16 = .ok (.iconst 1, 1) := by decide +kernel
theorem dX3_canCatch_17 : decode cX3_canCatch 17 = .ok (.goto 4, 3) := by decide +kernel
theorem dX3_canCatch_20 : decode cX3_canCatch 20 = .ok (.iconst 0, 1) := by decide +kernel
theorem dX3_canCatch_21 : decode cX3_canCatch 21 = .ok (.ireturn, 1) := by decide +kernel
theorem dX3_takeMould_0 : decode cX3_takeMould 0 = .ok (.aload_n 0, 1) := by decide +kernel
theorem dX3_takeMould_1 : decode cX3_takeMould 1 = .ok (.iload_n 1, 1) := by decide +kernel
theorem dX3_takeMould_2 : decode cX3_takeMould 2 = .ok (.putfield 33, 3) := by decide +kernel
theorem dX3_takeMould_5 : decode cX3_takeMould 5 = .ok (.aload_n 0, 1) := by decide +kernel
theorem dX3_takeMould_6 : decode cX3_takeMould 6 = .ok (.iload_n 1, 1) := by decide +kernel
theorem dX3_takeMould_7 : decode cX3_takeMould 7 = .ok (.ifCond .ne 7, 3) := by decide +kernel
theorem dX3_takeMould_10 : decode cX3_takeMould 10 = .ok (.iconst 0, 1) := by decide +kernel
theorem dX3_takeMould_11 : decode cX3_takeMould 11 = .ok (.goto 4, 3) := by decide +kernel
theorem dX3_takeMould_14 : decode cX3_takeMould 14 = .ok (.iconst 1, 1) := by decide +kernel
theorem dX3_takeMould_15 : decode cX3_takeMould 15 = .ok (.putfield 36, 3) := by decide +kernel
theorem dX3_takeMould_18 : decode cX3_takeMould 18 = .ok (.aload_n 0, 1) := by decide +kernel
theorem dX3_takeMould_19 : decode cX3_takeMould 19 = .ok (.iload_n 2, 1) := by decide +kernel
theorem dX3_takeMould_20 : decode cX3_takeMould 20 = .ok (.putfield 39, 3) := by decide +kernel
theorem dX3_takeMould_23 : decode cX3_takeMould 23 = .ok (.return_, 1) := by decide +kernel
theorem dX3_undergo_0 : decode cX3_undergo 0 = .ok (.iload_n 1, 1) := by decide +kernel
theorem dX3_undergo_1 : decode cX3_undergo 1 = .ok (.iconst 1, 1) := by decide +kernel
theorem dX3_undergo_2 : decode cX3_undergo 2 = .ok (.if_icmp .ne 11, 3) := by decide +kernel
theorem dX3_undergo_5 : decode cX3_undergo 5 = .ok (.aload_n 0, 1) := by decide +kernel
theorem dX3_undergo_6 : decode cX3_undergo 6 = .ok (.iconst 0, 1) := by decide +kernel
theorem dX3_undergo_7 : decode cX3_undergo 7 = .ok (.putfield 30, 3) := by decide +kernel
theorem dX3_undergo_10 : decode cX3_undergo 10 = .ok (.goto 42, 3) := by decide +kernel
theorem dX3_undergo_13 : decode cX3_undergo 13 = .ok (.iload_n 1, 1) := by decide +kernel
theorem dX3_undergo_14 : decode cX3_undergo 14 = .ok (.iconst 2, 1) := by decide +kernel
theorem dX3_undergo_15 : decode cX3_undergo 15 = .ok (.if_icmp .ne 21, 3) := by decide +kernel
theorem dX3_undergo_18 : decode cX3_undergo 18 = .ok (.aload_n 0, 1) := by decide +kernel
theorem dX3_undergo_19 : decode cX3_undergo 19 = .ok (.aload_n 0, 1) := by decide +kernel
theorem dX3_undergo_20 : decode cX3_undergo 20 = .ok (.getfield 24, 3) := by decide +kernel
theorem dX3_undergo_23 : decode cX3_undergo 23 = .ok (.iconst 2, 1) := by decide +kernel
theorem dX3_undergo_24 : decode cX3_undergo 24 = .ok (.iadd, 1) := by decide +kernel
theorem dX3_undergo_25 : decode cX3_undergo 25 = .ok (.bipush 20, 2) := by decide +kernel
theorem dX3_undergo_27 : decode cX3_undergo 27 = .ok (.invokestatic 52, 3) := by decide +kernel
theorem dX3_undergo_30 : decode cX3_undergo 30 = .ok (.putfield 24, 3) := by decide +kernel
theorem dX3_undergo_33 : decode cX3_undergo 33 = .ok (.goto 19, 3) := by decide +kernel
theorem dX3_undergo_36 : decode cX3_undergo 36 = .ok (.iload_n 1, 1) := by decide +kernel
theorem dX3_undergo_37 : decode cX3_undergo 37 = .ok (.iconst 3, 1) := by decide +kernel
theorem dX3_undergo_38 : decode cX3_undergo 38 = .ok (.if_icmp .ne 14, 3) := by decide +kernel
theorem dX3_undergo_41 : decode cX3_undergo 41 = .ok (.aload_n 0, 1) := by decide +kernel
theorem dX3_undergo_42 : decode cX3_undergo 42 = .ok (.getfield 33, 3) := by decide +kernel
theorem dX3_undergo_45 : decode cX3_undergo 45 = .ok (.ifCond .eq 7, 3) := by decide +kernel
theorem dX3_undergo_48 : decode cX3_undergo 48 = .ok (.aload_n 0, 1) := by decide +kernel
theorem dX3_undergo_49 : decode cX3_undergo 49 = .ok (.invokevirtual 55, 3) := by decide +kernel
theorem dX3_undergo_52 : decode cX3_undergo 52 = .ok (.return_, 1) := by decide +kernel
theorem dX3_wash_0 : decode cX3_wash 0 = .ok (.aload_n 0, 1) := by decide +kernel
theorem dX3_wash_1 : decode cX3_wash 1 = .ok (.dup, 1) := by decide +kernel
theorem dX3_wash_2 : decode cX3_wash 2 = .ok (.getfield 36, 3) := by decide +kernel
theorem dX3_wash_5 : decode cX3_wash 5 = .ok (.iconst 3, 1) := by decide +kernel
theorem dX3_wash_6 : decode cX3_wash 6 = .ok (.isub, 1) := by decide +kernel
theorem dX3_wash_7 : decode cX3_wash 7 = .ok (.putfield 36, 3) := by decide +kernel
theorem dX3_wash_10 : decode cX3_wash 10 = .ok (.aload_n 0, 1) := by decide +kernel
theorem dX3_wash_11 : decode cX3_wash 11 = .ok (.getfield 36, 3) := by decide +kernel
theorem dX3_wash_14 : decode cX3_wash 14 = .ok (.ifCond .gt 9, 3) := by decide +kernel
theorem dX3_wash_17 : decode cX3_wash 17 = .ok (.aload_n 0, 1) := by decide +kernel
theorem dX3_wash_18 : decode cX3_wash 18 = .ok (.iconst 0, 1) := by decide +kernel
theorem dX3_wash_19 : decode cX3_wash 19 = .ok (.iconst (-1), 1) := by decide +kernel
theorem dX3_wash_20 : decode cX3_wash 20 = .ok (.invokevirtual 58, 3) := by decide +kernel
theorem dX3_wash_23 : decode cX3_wash 23 = .ok (.return_, 1) := by decide +kernel
theorem dX3_ageOneDay_0 : decode cX3_ageOneDay 0 = .ok (.aload_n 0, 1) := by decide +kernel
theorem dX3_ageOneDay_1 : decode cX3_ageOneDay 1 = .ok (.getfield 33, 3) := by decide +kernel
theorem dX3_ageOneDay_4 : decode cX3_ageOneDay 4 = .ok (.ifCond .eq 37, 3) := by decide +kernel
theorem dX3_ageOneDay_7 : decode cX3_ageOneDay 7 = .ok (.aload_n 0, 1) := by decide +kernel
theorem dX3_ageOneDay_8 : decode cX3_ageOneDay 8 = .ok (.getfield 24, 3) := by decide +kernel
theorem dX3_ageOneDay_11 : decode cX3_ageOneDay 11 = .ok (.bipush 12, 2) := by decide +kernel
theorem dX3_ageOneDay_13 : decode cX3_ageOneDay 13 = .ok (.if_icmp .ge 28, 3) := by decide +kernel
theorem dX3_ageOneDay_16 : decode cX3_ageOneDay 16 = .ok (.aload_n 0, 1) := by decide +kernel
theorem dX3_ageOneDay_17 : decode cX3_ageOneDay 17 = .ok (.aload_n 0, 1) := by decide +kernel
theorem dX3_ageOneDay_18 : decode cX3_ageOneDay 18 = .ok (.getfield 36, 3) := by decide +kernel
theorem dX3_ageOneDay_21 : decode cX3_ageOneDay 21 = .ok (.iload_n 2, 1) := by decide +kernel
theorem dX3_ageOneDay_22 : decode cX3_ageOneDay 22 = .ok (.bipush 6, 2) := by decide +kernel
theorem dX3_ageOneDay_24 : decode cX3_ageOneDay 24 = .ok (.if_icmp .lt 7, 3) := by decide +kernel
theorem dX3_ageOneDay_27 : decode cX3_ageOneDay 27 = .ok (.iconst 2, 1) := by decide +kernel
theorem dX3_ageOneDay_28 : decode cX3_ageOneDay 28 = .ok (.goto 4, 3) := by decide +kernel
theorem dX3_ageOneDay_31 : decode cX3_ageOneDay 31 = .ok (.iconst 1, 1) := by decide +kernel
theorem dX3_ageOneDay_32 : decode cX3_ageOneDay 32 = .ok (.iadd, 1) := by decide +kernel
theorem dX3_ageOneDay_33 : decode cX3_ageOneDay 33 = .ok (.bipush 9, 2) := by decide +kernel
theorem dX3_ageOneDay_35 : decode cX3_ageOneDay 35 = .ok (.invokestatic 52, 3) := by decide +kernel
theorem dX3_ageOneDay_38 : decode cX3_ageOneDay 38 = .ok (.putfield 36, 3) := by decide +kernel
theorem dX3_ageOneDay_41 : decode cX3_ageOneDay 41 = .ok (.aload_n 0, 1) := by decide +kernel
theorem dX3_ageOneDay_42 : decode cX3_ageOneDay 42 = .ok (.aload_n 0, 1) := by decide +kernel
theorem dX3_ageOneDay_43 : decode cX3_ageOneDay 43 = .ok (.getfield 21, 3) := by decide +kernel
theorem dX3_ageOneDay_46 : decode cX3_ageOneDay 46 = .ok (.aload_n 0, 1) := by decide +kernel
theorem dX3_ageOneDay_47 : decode cX3_ageOneDay 47 = .ok (.getfield 30, 3) := by decide +kernel
theorem dX3_ageOneDay_50 : decode cX3_ageOneDay 50 = .ok (.bipush 7, 2) := by decide +kernel
theorem dX3_ageOneDay_52 : decode cX3_ageOneDay 52 = .ok (.if_icmp .lt 9, 3) := by decide +kernel
theorem dX3_ageOneDay_55 : decode cX3_ageOneDay 55 = .ok (.iload_n 1, 1) := by decide +kernel
theorem dX3_ageOneDay_56 : decode cX3_ageOneDay 56 = .ok (.iconst 2, 1) := by decide +kernel
theorem dX3_ageOneDay_57 : decode cX3_ageOneDay 57 = .ok (.idiv, 1) := by decide +kernel
theorem dX3_ageOneDay_58 : decode cX3_ageOneDay 58 = .ok (.goto 4, 3) := by decide +kernel
theorem dX3_ageOneDay_61 : decode cX3_ageOneDay 61 = .ok (.iload_n 1, 1) := by decide +kernel
theorem dX3_ageOneDay_62 : decode cX3_ageOneDay 62 = .ok (.iadd, 1) := by decide +kernel
theorem dX3_ageOneDay_63 : decode cX3_ageOneDay 63 = .ok (.bipush 100, 2) := by decide +kernel
theorem dX3_ageOneDay_65 : decode cX3_ageOneDay 65 = .ok (.invokestatic 52, 3) := by decide +kernel
theorem dX3_ageOneDay_68 : decode cX3_ageOneDay 68 = .ok (.putfield 21, 3) := by decide +kernel
theorem dX3_ageOneDay_71 : decode cX3_ageOneDay 71 = .ok (.aload_n 0, 1) := by decide +kernel
theorem dX3_ageOneDay_72 : decode cX3_ageOneDay 72 = .ok (.aload_n 0, 1) := by decide +kernel
theorem dX3_ageOneDay_73 : decode cX3_ageOneDay 73 = .ok (.getfield 27, 3) := by decide +kernel
theorem dX3_ageOneDay_76 : decode cX3_ageOneDay 76 = .ok (.bipush 10, 2) := by decide +kernel
theorem dX3_ageOneDay_78 : decode cX3_ageOneDay 78 = .ok (.iload_n 2, 1) := by decide +kernel
theorem dX3_ageOneDay_79 : decode cX3_ageOneDay 79 = .ok (.isub, 1) := by decide +kernel
theorem dX3_ageOneDay_80 : decode cX3_ageOneDay 80 = .ok (.iconst 2, 1) := by decide +kernel
theorem dX3_ageOneDay_81 : decode cX3_ageOneDay 81 = .ok (.idiv, 1) := by decide +kernel
theorem dX3_ageOneDay_82 : decode cX3_ageOneDay 82 = .ok (.isub, 1) := by decide +kernel
theorem dX3_ageOneDay_83 : decode cX3_ageOneDay 83 = .ok (.iconst 0, 1) := by decide +kernel
theorem dX3_ageOneDay_84 : decode cX3_ageOneDay 84 = .ok (.invokestatic 48, 3) := by decide +kernel
theorem dX3_ageOneDay_87 : decode cX3_ageOneDay 87 = .ok (.putfield 27, 3) := by decide +kernel
theorem dX3_ageOneDay_90 : decode cX3_ageOneDay 90 = .ok (.aload_n 0, 1) := by decide +kernel
theorem dX3_ageOneDay_91 : decode cX3_ageOneDay 91 = .ok (.dup, 1) := by decide +kernel
theorem dX3_ageOneDay_92 : decode cX3_ageOneDay 92 = .ok (.getfield 30, 3) := by decide +kernel
theorem dX3_ageOneDay_95 : decode cX3_ageOneDay 95 = .ok (.iconst 1, 1) := by decide +kernel
theorem dX3_ageOneDay_96 : decode cX3_ageOneDay 96 = .ok (.iadd, 1) := by decide +kernel
theorem dX3_ageOneDay_97 : decode cX3_ageOneDay 97 = .ok (.putfield 30, 3) := by decide +kernel
theorem dX3_ageOneDay_100 : decode cX3_ageOneDay 100 = .ok (.return_, 1) := by decide +kernel
theorem dX3_isSpoiled_0 : decode cX3_isSpoiled 0 = .ok (.aload_n 0, 1) := by decide +kernel
theorem dX3_isSpoiled_1 : decode cX3_isSpoiled 1 = .ok (.getfield 33, 3) := by decide +kernel
theorem dX3_isSpoiled_4 : decode cX3_isSpoiled 4 = .ok (.iconst 3, 1) := by decide +kernel
theorem dX3_isSpoiled_5 : decode cX3_isSpoiled 5 = .ok (.if_icmp .ne 12, 3) := by decide +kernel
theorem dX3_isSpoiled_8 : decode cX3_isSpoiled 8 = .ok (.aload_n 0, 1) := by decide +kernel
theorem dX3_isSpoiled_9 : decode cX3_isSpoiled 9 = .ok (.getfield 36, 3) := by decide +kernel
theorem dX3_isSpoiled_12 : decode cX3_isSpoiled 12 = .ok (.bipush 9, 2) := by decide +kernel
theorem dX3_isSpoiled_14 : decode cX3_isSpoiled 14 = .ok (.if_icmp .eq 10, 3) := by decide +kernel
theorem dX3_isSpoiled_17 : decode cX3_isSpoiled 17 = .ok (.aload_n 0, 1) := by decide +kernel
theorem dX3_isSpoiled_18 : decode cX3_isSpoiled 18 = .ok (.getfield 27, 3) := by decide +kernel
theorem dX3_isSpoiled_21 : decode cX3_isSpoiled 21 = .ok (.ifCond .ne 7, 3) := by decide +kernel
theorem dX3_isSpoiled_24 : decode cX3_isSpoiled 24 = .ok (.iconst 1, 1) := by decide +kernel
theorem dX3_isSpoiled_25 : decode cX3_isSpoiled 25 = .ok (.goto 4, 3) := by decide +kernel
theorem dX3_isSpoiled_28 : decode cX3_isSpoiled 28 = .ok (.iconst 0, 1) := by decide +kernel
theorem dX3_isSpoiled_29 : decode cX3_isSpoiled 29 = .ok (.ireturn, 1) := by decide +kernel
theorem dX3_fact_0 : decode cX3_fact 0 = .ok (.iload_n 1, 1) := by decide +kernel
theorem dX3_fact_1 : decode cX3_fact 1 = .ok (.tableswitch 105 0 9 #[55, 60, 65, 70, 75, 80, 85, 90, 95, 100], 55) := by decide +kernel
theorem dX3_fact_56 : decode cX3_fact 56 = .ok (.aload_n 0, 1) := by decide +kernel
theorem dX3_fact_57 : decode cX3_fact 57 = .ok (.getfield 9, 3) := by decide +kernel
theorem dX3_fact_60 : decode cX3_fact 60 = .ok (.ireturn, 1) := by decide +kernel
theorem dX3_fact_61 : decode cX3_fact 61 = .ok (.aload_n 0, 1) := by decide +kernel
theorem dX3_fact_62 : decode cX3_fact 62 = .ok (.getfield 15, 3) := by decide +kernel
theorem dX3_fact_65 : decode cX3_fact 65 = .ok (.ireturn, 1) := by decide +kernel
theorem dX3_fact_66 : decode cX3_fact 66 = .ok (.aload_n 0, 1) := by decide +kernel
theorem dX3_fact_67 : decode cX3_fact 67 = .ok (.getfield 18, 3) := by decide +kernel
theorem dX3_fact_70 : decode cX3_fact 70 = .ok (.ireturn, 1) := by decide +kernel
theorem dX3_fact_71 : decode cX3_fact 71 = .ok (.aload_n 0, 1) := by decide +kernel
theorem dX3_fact_72 : decode cX3_fact 72 = .ok (.getfield 21, 3) := by decide +kernel
theorem dX3_fact_75 : decode cX3_fact 75 = .ok (.ireturn, 1) := by decide +kernel
theorem dX3_fact_76 : decode cX3_fact 76 = .ok (.aload_n 0, 1) := by decide +kernel
theorem dX3_fact_77 : decode cX3_fact 77 = .ok (.getfield 24, 3) := by decide +kernel
theorem dX3_fact_80 : decode cX3_fact 80 = .ok (.ireturn, 1) := by decide +kernel
theorem dX3_fact_81 : decode cX3_fact 81 = .ok (.aload_n 0, 1) := by decide +kernel
theorem dX3_fact_82 : decode cX3_fact 82 = .ok (.getfield 27, 3) := by decide +kernel
theorem dX3_fact_85 : decode cX3_fact 85 = .ok (.ireturn, 1) := by decide +kernel
theorem dX3_fact_86 : decode cX3_fact 86 = .ok (.aload_n 0, 1) := by decide +kernel
theorem dX3_fact_87 : decode cX3_fact 87 = .ok (.getfield 30, 3) := by decide +kernel
theorem dX3_fact_90 : decode cX3_fact 90 = .ok (.ireturn, 1) := by decide +kernel
theorem dX3_fact_91 : decode cX3_fact 91 = .ok (.aload_n 0, 1) := by decide +kernel
theorem dX3_fact_92 : decode cX3_fact 92 = .ok (.getfield 33, 3) := by decide +kernel
theorem dX3_fact_95 : decode cX3_fact 95 = .ok (.ireturn, 1) := by decide +kernel
theorem dX3_fact_96 : decode cX3_fact 96 = .ok (.aload_n 0, 1) := by decide +kernel
theorem dX3_fact_97 : decode cX3_fact 97 = .ok (.getfield 36, 3) := by decide +kernel
theorem dX3_fact_100 : decode cX3_fact 100 = .ok (.ireturn, 1) := by decide +kernel
theorem dX3_fact_101 : decode cX3_fact 101 = .ok (.aload_n 0, 1) := by decide +kernel
theorem dX3_fact_102 : decode cX3_fact 102 = .ok (.getfield 39, 3) := by decide +kernel
theorem dX3_fact_105 : decode cX3_fact 105 = .ok (.ireturn, 1) := by decide +kernel
theorem dX3_fact_106 : decode cX3_fact 106 = .ok (.aload_n 0, 1) := by decide +kernel
theorem dX3_fact_107 : decode cX3_fact 107 = .ok (.invokevirtual 62, 3) := by decide +kernel
theorem dX3_fact_110 : decode cX3_fact 110 = .ok (.ireturn, 1) := by decide +kernel
theorem dX4_init_0 : decode cX4_init 0 = .ok (.aload_n 0, 1) := by decide +kernel
theorem dX4_init_1 : decode cX4_init 1 = .ok (.invokespecial 1, 3) := by decide +kernel
theorem dX4_init_4 : decode cX4_init 4 = .ok (.aload_n 0, 1) := by decide +kernel
theorem dX4_init_5 : decode cX4_init 5 = .ok (.new 7, 3) := by decide +kernel
theorem dX4_init_8 : decode cX4_init 8 = .ok (.dup, 1) := by decide +kernel
theorem dX4_init_9 : decode cX4_init 9 = .ok (.invokespecial 9, 3) := by decide +kernel
theorem dX4_init_12 : decode cX4_init 12 = .ok (.putfield 10, 3) := by decide +kernel
theorem dX4_init_15 : decode cX4_init 15 = .ok (.aload_n 0, 1) := by decide +kernel
theorem dX4_init_16 : decode cX4_init 16 = .ok (.new 7, 3) := by decide +kernel
theorem dX4_init_19 : decode cX4_init 19 = .ok (.dup, 1) := by decide +kernel
theorem dX4_init_20 : decode cX4_init 20 = .ok (.invokespecial 9, 3) := by decide +kernel
theorem dX4_init_23 : decode cX4_init 23 = .ok (.putfield 16, 3) := by decide +kernel
theorem dX4_init_26 : decode cX4_init 26 = .ok (.return_, 1) := by decide +kernel
theorem dX4_build_0 : decode cX4_build 0 = .ok (.iload_n 1, 1) := by decide +kernel
theorem dX4_build_1 : decode cX4_build 1 = .ok (.iconst 0, 1) := by decide +kernel
theorem dX4_build_2 : decode cX4_build 2 = .ok (.bipush 9, 2) := by decide +kernel
theorem dX4_build_4 : decode cX4_build 4 = .ok (.invokestatic 19, 3) := by decide +kernel
theorem dX4_build_7 : decode cX4_build 7 = .ok (.ifCond .eq 13, 3) := by decide +kernel
theorem dX4_build_10 : decode cX4_build 10 = .ok (.iload_n 2, 1) := by decide +kernel
theorem dX4_build_11 : decode cX4_build 11 = .ok (.iconst 0, 1) := by decide +kernel
theorem dX4_build_12 : decode cX4_build 12 = .ok (.bipush 9, 2) := by decide +kernel
theorem dX4_build_14 : decode cX4_build 14 = .ok (.invokestatic 19, 3) := by decide +kernel
theorem dX4_build_17 : decode cX4_build 17 = .ok (.ifCond .ne 13, 3) := by decide +kernel
theorem dX4_build_20 : decode cX4_build 20 = .ok (.new 23, 3) := by decide +kernel
theorem dX4_build_23 : decode cX4_build 23 = .ok (.dup, 1) := by decide +kernel
theorem dX4_build_24 : decode cX4_build 24 = .ok (.ldc 25, 2) := by decide +kernel
theorem dX4_build_26 : decode cX4_build 26 = .ok (.invokespecial 27, 3) := by decide +kernel
theorem dX4_build_29 : decode cX4_build 29 = .ok (.athrow, 1) := by decide +kernel
theorem dX4_build_30 : decode cX4_build 30 = .ok (.aload_n 0, 1) := by decide +kernel
theorem dX4_build_31 : decode cX4_build 31 = .ok (.getfield 10, 3) := by decide +kernel
theorem dX4_build_34 : decode cX4_build 34 = .ok (.getfield 30, 3) := by decide +kernel
theorem dX4_build_37 : decode cX4_build 37 = .ok (.iconst 4, 1) := by decide +kernel
theorem dX4_build_38 : decode cX4_build 38 = .ok (.if_icmp .lt 13, 3) := by decide +kernel
theorem dX4_build_41 : decode cX4_build 41 = .ok (.new 34, 3) := by decide +kernel
theorem dX4_build_44 : decode cX4_build 44 = .ok (.dup, 1) := by decide +kernel
theorem dX4_build_45 : decode cX4_build 45 = .ok (.ldc 36, 2) := by decide +kernel
theorem dX4_build_47 : decode cX4_build 47 = .ok (.invokespecial 38, 3) := by decide +kernel
theorem dX4_build_50 : decode cX4_build 50 = .ok (.athrow, 1) := by decide +kernel
theorem dX4_build_51 : decode cX4_build 51 = .ok (.aload_n 0, 1) := by decide +kernel
theorem dX4_build_52 : decode cX4_build 52 = .ok (.getfield 10, 3) := by decide +kernel
theorem dX4_build_55 : decode cX4_build 55 = .ok (.iload_n 1, 1) := by decide +kernel
theorem dX4_build_56 : decode cX4_build 56 = .ok (.iload_n 2, 1) := by decide +kernel
theorem dX4_build_57 : decode cX4_build 57 = .ok (.invokevirtual 39, 3) := by decide +kernel
theorem dX4_build_60 : decode cX4_build 60 = .ok (.ireturn, 1) := by decide +kernel
theorem dX4_air_0 : decode cX4_air 0 = .ok (.aload_n 0, 1) := by decide +kernel
theorem dX4_air_1 : decode cX4_air 1 = .ok (.getfield 10, 3) := by decide +kernel
theorem dX4_air_4 : decode cX4_air 4 = .ok (.iload_n 1, 1) := by decide +kernel
theorem dX4_air_5 : decode cX4_air 5 = .ok (.invokevirtual 43, 3) := by decide +kernel
theorem dX4_air_8 : decode cX4_air 8 = .ok (.astore 4, 2) := by decide +kernel
theorem dX4_air_10 : decode cX4_air 10 = .ok (.aload 4, 2) := by decide +kernel
theorem dX4_air_12 : decode cX4_air 12 = .ok (.ifnonnull 13, 3) := by decide +kernel
theorem dX4_air_15 : decode cX4_air 15 = .ok (.new 47, 3) := by decide +kernel
theorem dX4_air_18 : decode cX4_air 18 = .ok (.dup, 1) := by decide +kernel
theorem dX4_air_19 : decode cX4_air 19 = .ok (.ldc 49, 2) := by decide +kernel
theorem dX4_air_21 : decode cX4_air 21 = .ok (.invokespecial 51, 3) := by decide +kernel
theorem dX4_air_24 : decode cX4_air 24 = .ok (.athrow, 1) := by decide +kernel
theorem dX4_air_25 : decode cX4_air 25 = .ok (.iload_n 2, 1) := by decide +kernel
theorem dX4_air_26 : decode cX4_air 26 = .ok (.iconst 0, 1) := by decide +kernel
theorem dX4_air_27 : decode cX4_air 27 = .ok (.bipush 9, 2) := by decide +kernel
theorem dX4_air_29 : decode cX4_air 29 = .ok (.invokestatic 19, 3) := by decide +kernel
theorem dX4_air_32 : decode cX4_air 32 = .ok (.ifCond .eq 13, 3) := by decide +kernel
theorem dX4_air_35 : decode cX4_air 35 = .ok (.iload_n 3, 1) := by decide +kernel
theorem dX4_air_36 : decode cX4_air 36 = .ok (.iconst 0, 1) := by decide +kernel
theorem dX4_air_37 : decode cX4_air 37 = .ok (.bipush 9, 2) := by decide +kernel
theorem dX4_air_39 : decode cX4_air 39 = .ok (.invokestatic 19, 3) := by decide +kernel
theorem dX4_air_42 : decode cX4_air 42 = .ok (.ifCond .ne 13, 3) := by decide +kernel
theorem dX4_air_45 : decode cX4_air 45 = .ok (.new 23, 3) := by decide +kernel
theorem dX4_air_48 : decode cX4_air 48 = .ok (.dup, 1) := by decide +kernel
theorem dX4_air_49 : decode cX4_air 49 = .ok (.ldc 25, 2) := by decide +kernel
theorem dX4_air_51 : decode cX4_air 51 = .ok (.invokespecial 27, 3) := by decide +kernel
theorem dX4_air_54 : decode cX4_air 54 = .ok (.athrow, 1) := by decide +kernel
theorem dX4_air_55 : decode cX4_air 55 = .ok (.bipush 10, 2) := by decide +kernel
theorem dX4_air_57 : decode cX4_air 57 = .ok (.aload 4, 2) := by decide +kernel
theorem dX4_air_59 : decode cX4_air 59 = .ok (.getfield 52, 3) := by decide +kernel
theorem dX4_air_62 : decode cX4_air 62 = .ok (.imul, 1) := by decide +kernel
theorem dX4_air_63 : decode cX4_air 63 = .ok (.aload 4, 2) := by decide +kernel
theorem dX4_air_65 : decode cX4_air 65 = .ok (.getfield 57, 3) := by decide +kernel
theorem dX4_air_68 : decode cX4_air 68 = .ok (.iadd, 1) := by decide +kernel
theorem dX4_air_69 : decode cX4_air 69 = .ok (.istore 5, 2) := by decide +kernel
theorem dX4_air_71 : decode cX4_air 71 = .ok (.aload 4, 2) := by decide +kernel
theorem dX4_air_73 : decode cX4_air 73 = .ok (.iload_n 2, 1) := by decide +kernel
theorem dX4_air_74 : decode cX4_air 74 = .ok (.putfield 52, 3) := by decide +kernel
theorem dX4_air_77 : decode cX4_air 77 = .ok (.aload 4, 2) := by decide +kernel
theorem dX4_air_79 : decode cX4_air 79 = .ok (.iload_n 3, 1) := by decide +kernel
theorem dX4_air_80 : decode cX4_air 80 = .ok (.putfield 57, 3) := by decide +kernel
theorem dX4_air_83 : decode cX4_air 83 = .ok (.iload 5, 2) := by decide +kernel
theorem dX4_air_85 : decode cX4_air 85 = .ok (.ireturn, 1) := by decide +kernel
theorem dX4_make_0 : decode cX4_make 0 = .ok (.aload_n 0, 1) := by decide +kernel
theorem dX4_make_1 : decode cX4_make 1 = .ok (.getfield 10, 3) := by decide +kernel
theorem dX4_make_4 : decode cX4_make 4 = .ok (.iload_n 1, 1) := by decide +kernel
theorem dX4_make_5 : decode cX4_make 5 = .ok (.invokevirtual 43, 3) := by decide +kernel
theorem dX4_make_8 : decode cX4_make 8 = .ok (.astore_n 3, 1) := by decide +kernel
theorem dX4_make_9 : decode cX4_make 9 = .ok (.aload_n 3, 1) := by decide +kernel
theorem dX4_make_10 : decode cX4_make 10 = .ok (.ifnull 10, 3) := by decide +kernel
theorem dX4_make_13 : decode cX4_make 13 = .ok (.iload_n 2, 1) := by decide +kernel
theorem dX4_make_14 : decode cX4_make 14 = .ok (.invokestatic 60, 3) := by decide +kernel
theorem dX4_make_17 : decode cX4_make 17 = .ok (.ifCond .ne 13, 3) := by decide +kernel
theorem dX4_make_20 : decode cX4_make 20 = .ok (.new 47, 3) := by decide +kernel
theorem dX4_make_23 : decode cX4_make 23 = .ok (.dup, 1) := by decide +kernel
theorem dX4_make_24 : decode cX4_make 24 = .ok (.ldc 64, 2) := by decide +kernel
theorem dX4_make_26 : decode cX4_make 26 = .ok (.invokespecial 51, 3) := by decide +kernel
theorem dX4_make_29 : decode cX4_make 29 = .ok (.athrow, 1) := by decide +kernel
theorem dX4_make_30 : decode cX4_make 30 = .ok (.aload_n 0, 1) := by decide +kernel
theorem dX4_make_31 : decode cX4_make 31 = .ok (.getfield 10, 3) := by decide +kernel
theorem dX4_make_34 : decode cX4_make 34 = .ok (.getfield 66, 3) := by decide +kernel
theorem dX4_make_37 : decode cX4_make 37 = .ok (.bipush 24, 2) := by decide +kernel
theorem dX4_make_39 : decode cX4_make 39 = .ok (.if_icmp .ge 12, 3) := by decide +kernel
theorem dX4_make_42 : decode cX4_make 42 = .ok (.aload_n 3, 1) := by decide +kernel
theorem dX4_make_43 : decode cX4_make 43 = .ok (.iload_n 2, 1) := by decide +kernel
theorem dX4_make_44 : decode cX4_make 44 = .ok (.invokevirtual 69, 3) := by decide +kernel
theorem dX4_make_47 : decode cX4_make 47 = .ok (.iconst (-1), 1) := by decide +kernel
theorem dX4_make_48 : decode cX4_make 48 = .ok (.if_icmp .eq 13, 3) := by decide +kernel
theorem dX4_make_51 : decode cX4_make 51 = .ok (.new 34, 3) := by decide +kernel
theorem dX4_make_54 : decode cX4_make 54 = .ok (.dup, 1) := by decide +kernel
theorem dX4_make_55 : decode cX4_make 55 = .ok (.ldc 73, 2) := by decide +kernel
theorem dX4_make_57 : decode cX4_make 57 = .ok (.invokespecial 38, 3) := by decide +kernel
theorem dX4_make_60 : decode cX4_make 60 = .ok (.athrow, 1) := by decide +kernel
theorem dX4_make_61 : decode cX4_make 61 = .ok (.aload_n 0, 1) := by decide +kernel
theorem dX4_make_62 : decode cX4_make 62 = .ok (.getfield 10, 3) := by decide +kernel
theorem dX4_make_65 : decode cX4_make 65 = .ok (.iload_n 1, 1) := by decide +kernel
theorem dX4_make_66 : decode cX4_make 66 = .ok (.iload_n 2, 1) := by decide +kernel
theorem dX4_make_67 : decode cX4_make 67 = .ok (.invokevirtual 75, 3) := by decide +kernel
theorem dX4_make_70 : decode cX4_make 70 = .ok (.ireturn, 1) := by decide +kernel
theorem dX4_carry_0 : decode cX4_carry 0 = .ok (.aload_n 0, 1) := by decide +kernel
theorem dX4_carry_1 : decode cX4_carry 1 = .ok (.getfield 10, 3) := by decide +kernel
theorem dX4_carry_4 : decode cX4_carry 4 = .ok (.iload_n 2, 1) := by decide +kernel
theorem dX4_carry_5 : decode cX4_carry 5 = .ok (.invokevirtual 43, 3) := by decide +kernel
theorem dX4_carry_8 : decode cX4_carry 8 = .ok (.astore 4, 2) := by decide +kernel
theorem dX4_carry_10 : decode cX4_carry 10 = .ok (.aload_n 0, 1) := by decide +kernel
theorem dX4_carry_11 : decode cX4_carry 11 = .ok (.getfield 10, 3) := by decide +kernel
theorem dX4_carry_14 : decode cX4_carry 14 = .ok (.iload_n 1, 1) := by decide +kernel
theorem dX4_carry_15 : decode cX4_carry 15 = .ok (.invokevirtual 78, 3) := by decide +kernel
theorem dX4_carry_18 : decode cX4_carry 18 = .ok (.ifnull 15, 3) := by decide +kernel
theorem dX4_carry_21 : decode cX4_carry 21 = .ok (.aload 4, 2) := by decide +kernel
theorem dX4_carry_23 : decode cX4_carry 23 = .ok (.ifnull 10, 3) := by decide +kernel
theorem dX4_carry_26 : decode cX4_carry 26 = .ok (.iload_n 3, 1) := by decide +kernel
theorem dX4_carry_27 : decode cX4_carry 27 = .ok (.invokestatic 60, 3) := by decide +kernel
theorem dX4_carry_30 : decode cX4_carry 30 = .ok (.ifCond .ne 13, 3) := by decide +kernel
theorem dX4_carry_33 : decode cX4_carry 33 = .ok (.new 47, 3) := by decide +kernel
theorem dX4_carry_36 : decode cX4_carry 36 = .ok (.dup, 1) := by decide +kernel
theorem dX4_carry_37 : decode cX4_carry 37 = .ok (.ldc 82, 2) := by decide +kernel
theorem dX4_carry_39 : decode cX4_carry 39 = .ok (.invokespecial 51, 3) := by decide +kernel
theorem dX4_carry_42 : decode cX4_carry 42 = .ok (.athrow, 1) := by decide +kernel
theorem dX4_carry_43 : decode cX4_carry 43 = .ok (.aload_n 0, 1) := by decide +kernel
theorem dX4_carry_44 : decode cX4_carry 44 = .ok (.getfield 10, 3) := by decide +kernel
theorem dX4_carry_47 : decode cX4_carry 47 = .ok (.iload_n 1, 1) := by decide +kernel
theorem dX4_carry_48 : decode cX4_carry 48 = .ok (.invokevirtual 84, 3) := by decide +kernel
theorem dX4_carry_51 : decode cX4_carry 51 = .ok (.astore 5, 2) := by decide +kernel
theorem dX4_carry_53 : decode cX4_carry 53 = .ok (.aload 5, 2) := by decide +kernel
theorem dX4_carry_55 : decode cX4_carry 55 = .ok (.ifnull 13, 3) := by decide +kernel
theorem dX4_carry_58 : decode cX4_carry 58 = .ok (.aload 4, 2) := by decide +kernel
theorem dX4_carry_60 : decode cX4_carry 60 = .ok (.iload_n 3, 1) := by decide +kernel
theorem dX4_carry_61 : decode cX4_carry 61 = .ok (.invokevirtual 69, 3) := by decide +kernel
theorem dX4_carry_64 : decode cX4_carry 64 = .ok (.iconst (-1), 1) := by decide +kernel
theorem dX4_carry_65 : decode cX4_carry 65 = .ok (.if_icmp .eq 13, 3) := by decide +kernel
theorem dX4_carry_68 : decode cX4_carry 68 = .ok (.new 34, 3) := by decide +kernel
theorem dX4_carry_71 : decode cX4_carry 71 = .ok (.dup, 1) := by decide +kernel
theorem dX4_carry_72 : decode cX4_carry 72 = .ok (.ldc 87, 2) := by decide +kernel
theorem dX4_carry_74 : decode cX4_carry 74 = .ok (.invokespecial 38, 3) := by decide +kernel
theorem dX4_carry_77 : decode cX4_carry 77 = .ok (.athrow, 1) := by decide +kernel
theorem dX4_carry_78 : decode cX4_carry 78 = .ok (.bipush 10, 2) := by decide +kernel
theorem dX4_carry_80 : decode cX4_carry 80 = .ok (.aload 5, 2) := by decide +kernel
theorem dX4_carry_82 : decode cX4_carry 82 = .ok (.getfield 89, 3) := by decide +kernel
theorem dX4_carry_85 : decode cX4_carry 85 = .ok (.imul, 1) := by decide +kernel
theorem dX4_carry_86 : decode cX4_carry 86 = .ok (.aload 5, 2) := by decide +kernel
theorem dX4_carry_88 : decode cX4_carry 88 = .ok (.getfield 94, 3) := by decide +kernel
theorem dX4_carry_91 : decode cX4_carry 91 = .ok (.iadd, 1) := by decide +kernel
theorem dX4_carry_92 : decode cX4_carry 92 = .ok (.istore 6, 2) := by decide +kernel
theorem dX4_carry_94 : decode cX4_carry 94 = .ok (.aload_n 0, 1) := by decide +kernel
theorem dX4_carry_95 : decode cX4_carry 95 = .ok (.getfield 10, 3) := by decide +kernel
theorem dX4_carry_98 : decode cX4_carry 98 = .ok (.iload_n 1, 1) := by decide +kernel
theorem dX4_carry_99 : decode cX4_carry 99 = .ok (.iload_n 2, 1) := by decide +kernel
theorem dX4_carry_100 : decode cX4_carry 100 = .ok (.iload_n 3, 1) := by decide +kernel
theorem dX4_carry_101 : decode cX4_carry 101 = .ok (.invokevirtual 97, 3) := by decide +kernel
theorem dX4_carry_104 : decode cX4_carry 104 = .ok (.iload 6, 2) := by decide +kernel
theorem dX4_carry_106 : decode cX4_carry 106 = .ok (.ireturn, 1) := by decide +kernel
theorem dX4_infect_0 : decode cX4_infect 0 = .ok (.aload_n 0, 1) := by decide +kernel
theorem dX4_infect_1 : decode cX4_infect 1 = .ok (.getfield 10, 3) := by decide +kernel
theorem dX4_infect_4 : decode cX4_infect 4 = .ok (.iload_n 1, 1) := by decide +kernel
theorem dX4_infect_5 : decode cX4_infect 5 = .ok (.invokevirtual 78, 3) := by decide +kernel
theorem dX4_infect_8 : decode cX4_infect 8 = .ok (.ifnonnull 13, 3) := by decide +kernel
theorem dX4_infect_11 : decode cX4_infect 11 = .ok (.new 47, 3) := by decide +kernel
theorem dX4_infect_14 : decode cX4_infect 14 = .ok (.dup, 1) := by decide +kernel
theorem dX4_infect_15 : decode cX4_infect 15 = .ok (.ldc 101, 2) := by decide +kernel
theorem dX4_infect_17 : decode cX4_infect 17 = .ok (.invokespecial 51, 3) := by decide +kernel
theorem dX4_infect_20 : decode cX4_infect 20 = .ok (.athrow, 1) := by decide +kernel
theorem dX4_infect_21 : decode cX4_infect 21 = .ok (.iload_n 2, 1) := by decide +kernel
theorem dX4_infect_22 : decode cX4_infect 22 = .ok (.iconst 0, 1) := by decide +kernel
theorem dX4_infect_23 : decode cX4_infect 23 = .ok (.iconst 3, 1) := by decide +kernel
theorem dX4_infect_24 : decode cX4_infect 24 = .ok (.invokestatic 19, 3) := by decide +kernel
theorem dX4_infect_27 : decode cX4_infect 27 = .ok (.ifCond .ne 13, 3) := by decide +kernel
theorem dX4_infect_30 : decode cX4_infect 30 = .ok (.new 23, 3) := by decide +kernel
theorem dX4_infect_33 : decode cX4_infect 33 = .ok (.dup, 1) := by decide +kernel
theorem dX4_infect_34 : decode cX4_infect 34 = .ok (.ldc 103, 2) := by decide +kernel
theorem dX4_infect_36 : decode cX4_infect 36 = .ok (.invokespecial 27, 3) := by decide +kernel
theorem dX4_infect_39 : decode cX4_infect 39 = .ok (.athrow, 1) := by decide +kernel
theorem dX4_infect_40 : decode cX4_infect 40 = .ok (.aload_n 0, 1) := by decide +kernel
theorem dX4_infect_41 : decode cX4_infect 41 = .ok (.getfield 10, 3) := by decide +kernel
theorem dX4_infect_44 : decode cX4_infect 44 = .ok (.iload_n 1, 1) := by decide +kernel
theorem dX4_infect_45 : decode cX4_infect 45 = .ok (.invokevirtual 84, 3) := by decide +kernel
theorem dX4_infect_48 : decode cX4_infect 48 = .ok (.astore_n 3, 1) := by decide +kernel
theorem dX4_infect_49 : decode cX4_infect 49 = .ok (.aload_n 3, 1) := by decide +kernel
theorem dX4_infect_50 : decode cX4_infect 50 = .ok (.ifnonnull 13, 3) := by decide +kernel
theorem dX4_infect_53 : decode cX4_infect 53 = .ok (.new 34, 3) := by decide +kernel
theorem dX4_infect_56 : decode cX4_infect 56 = .ok (.dup, 1) := by decide +kernel
theorem dX4_infect_57 : decode cX4_infect 57 = .ok (.ldc 105, 2) := by decide +kernel
theorem dX4_infect_59 : decode cX4_infect 59 = .ok (.invokespecial 38, 3) := by decide +kernel
theorem dX4_infect_62 : decode cX4_infect 62 = .ok (.athrow, 1) := by decide +kernel
theorem dX4_infect_63 : decode cX4_infect 63 = .ok (.aload_n 3, 1) := by decide +kernel
theorem dX4_infect_64 : decode cX4_infect 64 = .ok (.getfield 107, 3) := by decide +kernel
theorem dX4_infect_67 : decode cX4_infect 67 = .ok (.istore 4, 2) := by decide +kernel
theorem dX4_infect_69 : decode cX4_infect 69 = .ok (.aload_n 3, 1) := by decide +kernel
theorem dX4_infect_70 : decode cX4_infect 70 = .ok (.iload_n 2, 1) := by decide +kernel
theorem dX4_infect_71 : decode cX4_infect 71 = .ok (.iconst (-1), 1) := by decide +kernel
theorem dX4_infect_72 : decode cX4_infect 72 = .ok (.invokevirtual 110, 3) := by decide +kernel
theorem dX4_infect_75 : decode cX4_infect 75 = .ok (.iload 4, 2) := by decide +kernel
theorem dX4_infect_77 : decode cX4_infect 77 = .ok (.ireturn, 1) := by decide +kernel
theorem dX4_sell_0 : decode cX4_sell 0 = .ok (.aload_n 0, 1) := by decide +kernel
theorem dX4_sell_1 : decode cX4_sell 1 = .ok (.getfield 10, 3) := by decide +kernel
theorem dX4_sell_4 : decode cX4_sell 4 = .ok (.iload_n 1, 1) := by decide +kernel
theorem dX4_sell_5 : decode cX4_sell 5 = .ok (.invokevirtual 78, 3) := by decide +kernel
theorem dX4_sell_8 : decode cX4_sell 8 = .ok (.ifnonnull 13, 3) := by decide +kernel
theorem dX4_sell_11 : decode cX4_sell 11 = .ok (.new 47, 3) := by decide +kernel
theorem dX4_sell_14 : decode cX4_sell 14 = .ok (.dup, 1) := by decide +kernel
theorem dX4_sell_15 : decode cX4_sell 15 = .ok (.ldc 101, 2) := by decide +kernel
theorem dX4_sell_17 : decode cX4_sell 17 = .ok (.invokespecial 51, 3) := by decide +kernel
theorem dX4_sell_20 : decode cX4_sell 20 = .ok (.athrow, 1) := by decide +kernel
theorem dX4_sell_21 : decode cX4_sell 21 = .ok (.aload_n 0, 1) := by decide +kernel
theorem dX4_sell_22 : decode cX4_sell 22 = .ok (.getfield 10, 3) := by decide +kernel
theorem dX4_sell_25 : decode cX4_sell 25 = .ok (.iload_n 1, 1) := by decide +kernel
theorem dX4_sell_26 : decode cX4_sell 26 = .ok (.invokevirtual 84, 3) := by decide +kernel
theorem dX4_sell_29 : decode cX4_sell 29 = .ok (.astore_n 2, 1) := by decide +kernel
theorem dX4_sell_30 : decode cX4_sell 30 = .ok (.aload_n 2, 1) := by decide +kernel
theorem dX4_sell_31 : decode cX4_sell 31 = .ok (.ifnonnull 13, 3) := by decide +kernel
theorem dX4_sell_34 : decode cX4_sell 34 = .ok (.new 34, 3) := by decide +kernel
theorem dX4_sell_37 : decode cX4_sell 37 = .ok (.dup, 1) := by decide +kernel
theorem dX4_sell_38 : decode cX4_sell 38 = .ok (.ldc 105, 2) := by decide +kernel
theorem dX4_sell_40 : decode cX4_sell 40 = .ok (.invokespecial 38, 3) := by decide +kernel
theorem dX4_sell_43 : decode cX4_sell 43 = .ok (.athrow, 1) := by decide +kernel
theorem dX4_sell_44 : decode cX4_sell 44 = .ok (.aload_n 2, 1) := by decide +kernel
theorem dX4_sell_45 : decode cX4_sell 45 = .ok (.invokevirtual 114, 3) := by decide +kernel
theorem dX4_sell_48 : decode cX4_sell 48 = .ok (.istore_n 3, 1) := by decide +kernel
theorem dX4_sell_49 : decode cX4_sell 49 = .ok (.aload_n 0, 1) := by decide +kernel
theorem dX4_sell_50 : decode cX4_sell 50 = .ok (.getfield 10, 3) := by decide +kernel
theorem dX4_sell_53 : decode cX4_sell 53 = .ok (.dup, 1) := by decide +kernel
theorem dX4_sell_54 : decode cX4_sell 54 = .ok (.getfield 118, 3) := by decide +kernel
theorem dX4_sell_57 : decode cX4_sell 57 = .ok (.iload_n 3, 1) := by decide +kernel
theorem dX4_sell_58 : decode cX4_sell 58 = .ok (.iadd, 1) := by decide +kernel
theorem dX4_sell_59 : decode cX4_sell 59 = .ok (.putfield 118, 3) := by decide +kernel
theorem dX4_sell_62 : decode cX4_sell 62 = .ok (.aload_n 0, 1) := by decide +kernel
theorem dX4_sell_63 : decode cX4_sell 63 = .ok (.getfield 10, 3) := by decide +kernel
theorem dX4_sell_66 : decode cX4_sell 66 = .ok (.iload_n 1, 1) := by decide +kernel
theorem dX4_sell_67 : decode cX4_sell 67 = .ok (.iconst 1, 1) := by decide +kernel
theorem dX4_sell_68 : decode cX4_sell 68 = .ok (.invokevirtual 121, 3) := by decide +kernel
theorem dX4_sell_71 : decode cX4_sell 71 = .ok (.iload_n 3, 1) := by decide +kernel
theorem dX4_sell_72 : decode cX4_sell 72 = .ok (.ireturn, 1) := by decide +kernel
theorem dX4_hire_0 : decode cX4_hire 0 = .ok (.aload_n 0, 1) := by decide +kernel
theorem dX4_hire_1 : decode cX4_hire 1 = .ok (.getfield 10, 3) := by decide +kernel
theorem dX4_hire_4 : decode cX4_hire 4 = .ok (.iload_n 1, 1) := by decide +kernel
theorem dX4_hire_5 : decode cX4_hire 5 = .ok (.invokevirtual 43, 3) := by decide +kernel
theorem dX4_hire_8 : decode cX4_hire 8 = .ok (.ifnonnull 13, 3) := by decide +kernel
theorem dX4_hire_11 : decode cX4_hire 11 = .ok (.new 47, 3) := by decide +kernel
theorem dX4_hire_14 : decode cX4_hire 14 = .ok (.dup, 1) := by decide +kernel
theorem dX4_hire_15 : decode cX4_hire 15 = .ok (.ldc 49, 2) := by decide +kernel
theorem dX4_hire_17 : decode cX4_hire 17 = .ok (.invokespecial 51, 3) := by decide +kernel
theorem dX4_hire_20 : decode cX4_hire 20 = .ok (.athrow, 1) := by decide +kernel
theorem dX4_hire_21 : decode cX4_hire 21 = .ok (.iload_n 2, 1) := by decide +kernel
theorem dX4_hire_22 : decode cX4_hire 22 = .ok (.iconst 1, 1) := by decide +kernel
theorem dX4_hire_23 : decode cX4_hire 23 = .ok (.bipush 10, 2) := by decide +kernel
theorem dX4_hire_25 : decode cX4_hire 25 = .ok (.invokestatic 19, 3) := by decide +kernel
theorem dX4_hire_28 : decode cX4_hire 28 = .ok (.ifCond .ne 13, 3) := by decide +kernel
theorem dX4_hire_31 : decode cX4_hire 31 = .ok (.new 23, 3) := by decide +kernel
theorem dX4_hire_34 : decode cX4_hire 34 = .ok (.dup, 1) := by decide +kernel
theorem dX4_hire_35 : decode cX4_hire 35 = .ok (.ldc 124, 2) := by decide +kernel
theorem dX4_hire_37 : decode cX4_hire 37 = .ok (.invokespecial 27, 3) := by decide +kernel
theorem dX4_hire_40 : decode cX4_hire 40 = .ok (.athrow, 1) := by decide +kernel
theorem dX4_hire_41 : decode cX4_hire 41 = .ok (.aload_n 0, 1) := by decide +kernel
theorem dX4_hire_42 : decode cX4_hire 42 = .ok (.getfield 10, 3) := by decide +kernel
theorem dX4_hire_45 : decode cX4_hire 45 = .ok (.getfield 126, 3) := by decide +kernel
theorem dX4_hire_48 : decode cX4_hire 48 = .ok (.iconst 4, 1) := by decide +kernel
theorem dX4_hire_49 : decode cX4_hire 49 = .ok (.if_icmp .lt 13, 3) := by decide +kernel
theorem dX4_hire_52 : decode cX4_hire 52 = .ok (.new 34, 3) := by decide +kernel
theorem dX4_hire_55 : decode cX4_hire 55 = .ok (.dup, 1) := by decide +kernel
theorem dX4_hire_56 : decode cX4_hire 56 = .ok (.ldc 129, 2) := by decide +kernel
theorem dX4_hire_58 : decode cX4_hire 58 = .ok (.invokespecial 38, 3) := by decide +kernel
theorem dX4_hire_61 : decode cX4_hire 61 = .ok (.athrow, 1) := by decide +kernel
theorem dX4_hire_62 : decode cX4_hire 62 = .ok (.aload_n 0, 1) := by decide +kernel
theorem dX4_hire_63 : decode cX4_hire 63 = .ok (.getfield 10, 3) := by decide +kernel
theorem dX4_hire_66 : decode cX4_hire 66 = .ok (.iload_n 1, 1) := by decide +kernel
theorem dX4_hire_67 : decode cX4_hire 67 = .ok (.iload_n 2, 1) := by decide +kernel
theorem dX4_hire_68 : decode cX4_hire 68 = .ok (.invokevirtual 131, 3) := by decide +kernel
theorem dX4_hire_71 : decode cX4_hire 71 = .ok (.ireturn, 1) := by decide +kernel
theorem dX4_setRota_0 : decode cX4_setRota 0 = .ok (.aload_n 0, 1) := by decide +kernel
theorem dX4_setRota_1 : decode cX4_setRota 1 = .ok (.getfield 10, 3) := by decide +kernel
theorem dX4_setRota_4 : decode cX4_setRota 4 = .ok (.iload_n 1, 1) := by decide +kernel
theorem dX4_setRota_5 : decode cX4_setRota 5 = .ok (.invokevirtual 134, 3) := by decide +kernel
theorem dX4_setRota_8 : decode cX4_setRota 8 = .ok (.astore 4, 2) := by decide +kernel
theorem dX4_setRota_10 : decode cX4_setRota 10 = .ok (.aload 4, 2) := by decide +kernel
theorem dX4_setRota_12 : decode cX4_setRota 12 = .ok (.ifnull 13, 3) := by decide +kernel
theorem dX4_setRota_15 : decode cX4_setRota 15 = .ok (.iload_n 2, 1) := by decide +kernel
theorem dX4_setRota_16 : decode cX4_setRota 16 = .ok (.iconst 0, 1) := by decide +kernel
theorem dX4_setRota_17 : decode cX4_setRota 17 = .ok (.bipush 6, 2) := by decide +kernel
theorem dX4_setRota_19 : decode cX4_setRota 19 = .ok (.invokestatic 19, 3) := by decide +kernel
theorem dX4_setRota_22 : decode cX4_setRota 22 = .ok (.ifCond .ne 13, 3) := by decide +kernel
theorem dX4_setRota_25 : decode cX4_setRota 25 = .ok (.new 47, 3) := by decide +kernel
theorem dX4_setRota_28 : decode cX4_setRota 28 = .ok (.dup, 1) := by decide +kernel
theorem dX4_setRota_29 : decode cX4_setRota 29 = .ok (.ldc 138, 2) := by decide +kernel
theorem dX4_setRota_31 : decode cX4_setRota 31 = .ok (.invokespecial 51, 3) := by decide +kernel
theorem dX4_setRota_34 : decode cX4_setRota 34 = .ok (.athrow, 1) := by decide +kernel
theorem dX4_setRota_35 : decode cX4_setRota 35 = .ok (.iload_n 3, 1) := by decide +kernel
theorem dX4_setRota_36 : decode cX4_setRota 36 = .ok (.iconst 0, 1) := by decide +kernel
theorem dX4_setRota_37 : decode cX4_setRota 37 = .ok (.iconst 3, 1) := by decide +kernel
theorem dX4_setRota_38 : decode cX4_setRota 38 = .ok (.invokestatic 19, 3) := by decide +kernel
theorem dX4_setRota_41 : decode cX4_setRota 41 = .ok (.ifCond .ne 13, 3) := by decide +kernel
theorem dX4_setRota_44 : decode cX4_setRota 44 = .ok (.new 23, 3) := by decide +kernel
theorem dX4_setRota_47 : decode cX4_setRota 47 = .ok (.dup, 1) := by decide +kernel
theorem dX4_setRota_48 : decode cX4_setRota 48 = .ok (.ldc 140, 2) := by decide +kernel
theorem dX4_setRota_50 : decode cX4_setRota 50 = .ok (.invokespecial 27, 3) := by decide +kernel
theorem dX4_setRota_53 : decode cX4_setRota 53 = .ok (.athrow, 1) := by decide +kernel
theorem dX4_setRota_54 : decode cX4_setRota 54 = .ok (.aload 4, 2) := by decide +kernel
theorem dX4_setRota_56 : decode cX4_setRota 56 = .ok (.iload_n 2, 1) := by decide +kernel
theorem dX4_setRota_57 : decode cX4_setRota 57 = .ok (.invokevirtual 142, 3) := by decide +kernel
theorem dX4_setRota_60 : decode cX4_setRota 60 = .ok (.istore 5, 2) := by decide +kernel
theorem dX4_setRota_62 : decode cX4_setRota 62 = .ok (.aload 4, 2) := by decide +kernel
theorem dX4_setRota_64 : decode cX4_setRota 64 = .ok (.iload_n 2, 1) := by decide +kernel
theorem dX4_setRota_65 : decode cX4_setRota 65 = .ok (.iload_n 3, 1) := by decide +kernel
theorem dX4_setRota_66 : decode cX4_setRota 66 = .ok (.invokevirtual 147, 3) := by decide +kernel
theorem dX4_setRota_69 : decode cX4_setRota 69 = .ok (.iload 5, 2) := by decide +kernel
theorem dX4_setRota_71 : decode cX4_setRota 71 = .ok (.ireturn, 1) := by decide +kernel
theorem dX4_wheel_0 : decode cX4_wheel 0 = .ok (.aload_n 0, 1) := by decide +kernel
theorem dX4_wheel_1 : decode cX4_wheel 1 = .ok (.getfield 10, 3) := by decide +kernel
theorem dX4_wheel_4 : decode cX4_wheel 4 = .ok (.iload_n 1, 1) := by decide +kernel
theorem dX4_wheel_5 : decode cX4_wheel 5 = .ok (.invokevirtual 78, 3) := by decide +kernel
theorem dX4_wheel_8 : decode cX4_wheel 8 = .ok (.astore_n 3, 1) := by decide +kernel
theorem dX4_wheel_9 : decode cX4_wheel 9 = .ok (.aload_n 3, 1) := by decide +kernel
theorem dX4_wheel_10 : decode cX4_wheel 10 = .ok (.ifnull 13, 3) := by decide +kernel
theorem dX4_wheel_13 : decode cX4_wheel 13 = .ok (.iload_n 2, 1) := by decide +kernel
theorem dX4_wheel_14 : decode cX4_wheel 14 = .ok (.iconst 0, 1) := by decide +kernel
theorem dX4_wheel_15 : decode cX4_wheel 15 = .ok (.bipush 10, 2) := by decide +kernel
theorem dX4_wheel_17 : decode cX4_wheel 17 = .ok (.invokestatic 19, 3) := by decide +kernel
theorem dX4_wheel_20 : decode cX4_wheel 20 = .ok (.ifCond .ne 13, 3) := by decide +kernel
theorem dX4_wheel_23 : decode cX4_wheel 23 = .ok (.new 47, 3) := by decide +kernel
theorem dX4_wheel_26 : decode cX4_wheel 26 = .ok (.dup, 1) := by decide +kernel
theorem dX4_wheel_27 : decode cX4_wheel 27 = .ok (.ldc 150, 2) := by decide +kernel
theorem dX4_wheel_29 : decode cX4_wheel 29 = .ok (.invokespecial 51, 3) := by decide +kernel
theorem dX4_wheel_32 : decode cX4_wheel 32 = .ok (.athrow, 1) := by decide +kernel
theorem dX4_wheel_33 : decode cX4_wheel 33 = .ok (.aload_n 3, 1) := by decide +kernel
theorem dX4_wheel_34 : decode cX4_wheel 34 = .ok (.iload_n 2, 1) := by decide +kernel
theorem dX4_wheel_35 : decode cX4_wheel 35 = .ok (.invokevirtual 152, 3) := by decide +kernel
theorem dX4_wheel_38 : decode cX4_wheel 38 = .ok (.ireturn, 1) := by decide +kernel
theorem dX4_cellar_0 : decode cX4_cellar 0 = .ok (.aload_n 0, 1) := by decide +kernel
theorem dX4_cellar_1 : decode cX4_cellar 1 = .ok (.getfield 10, 3) := by decide +kernel
theorem dX4_cellar_4 : decode cX4_cellar 4 = .ok (.iload_n 1, 1) := by decide +kernel
theorem dX4_cellar_5 : decode cX4_cellar 5 = .ok (.invokevirtual 43, 3) := by decide +kernel
theorem dX4_cellar_8 : decode cX4_cellar 8 = .ok (.ifnull 12, 3) := by decide +kernel
theorem dX4_cellar_11 : decode cX4_cellar 11 = .ok (.iload_n 2, 1) := by decide +kernel
theorem dX4_cellar_12 : decode cX4_cellar 12 = .ok (.iconst 0, 1) := by decide +kernel
theorem dX4_cellar_13 : decode cX4_cellar 13 = .ok (.iconst 3, 1) := by decide +kernel
theorem dX4_cellar_14 : decode cX4_cellar 14 = .ok (.invokestatic 19, 3) := by decide +kernel
theorem dX4_cellar_17 : decode cX4_cellar 17 = .ok (.ifCond .ne 13, 3) := by decide +kernel
theorem dX4_cellar_20 : decode cX4_cellar 20 = .ok (.new 47, 3) := by decide +kernel
theorem dX4_cellar_23 : decode cX4_cellar 23 = .ok (.dup, 1) := by decide +kernel
theorem dX4_cellar_24 : decode cX4_cellar 24 = .ok (.ldc 155, 2) := by decide +kernel
theorem dX4_cellar_26 : decode cX4_cellar 26 = .ok (.invokespecial 51, 3) := by decide +kernel
theorem dX4_cellar_29 : decode cX4_cellar 29 = .ok (.athrow, 1) := by decide +kernel
theorem dX4_cellar_30 : decode cX4_cellar 30 = .ok (.aload_n 0, 1) := by decide +kernel
theorem dX4_cellar_31 : decode cX4_cellar 31 = .ok (.getfield 10, 3) := by decide +kernel
theorem dX4_cellar_34 : decode cX4_cellar 34 = .ok (.iload_n 1, 1) := by decide +kernel
theorem dX4_cellar_35 : decode cX4_cellar 35 = .ok (.iload_n 2, 1) := by decide +kernel
theorem dX4_cellar_36 : decode cX4_cellar 36 = .ok (.invokevirtual 157, 3) := by decide +kernel
theorem dX4_cellar_39 : decode cX4_cellar 39 = .ok (.ireturn, 1) := by decide +kernel
theorem dX4_at_0 : decode cX4_at 0 = .ok (.aload_n 0, 1) := by decide +kernel
theorem dX4_at_1 : decode cX4_at 1 = .ok (.getfield 10, 3) := by decide +kernel
theorem dX4_at_4 : decode cX4_at 4 = .ok (.iload_n 1, 1) := by decide +kernel
theorem dX4_at_5 : decode cX4_at 5 = .ok (.invokevirtual 43, 3) := by decide +kernel
theorem dX4_at_8 : decode cX4_at 8 = .ok (.astore_n 3, 1) := by decide +kernel
theorem dX4_at_9 : decode cX4_at 9 = .ok (.aload_n 3, 1) := by decide +kernel
theorem dX4_at_10 : decode cX4_at 10 = .ok (.ifnull 10, 3) := by decide +kernel
theorem dX4_at_13 : decode cX4_at 13 = .ok (.iload_n 2, 1) := by decide +kernel
theorem dX4_at_14 : decode cX4_at 14 = .ok (.invokestatic 60, 3) := by decide +kernel
theorem dX4_at_17 : decode cX4_at 17 = .ok (.ifCond .ne 13, 3) := by decide +kernel
theorem dX4_at_20 : decode cX4_at 20 = .ok (.new 47, 3) := by decide +kernel
theorem dX4_at_23 : decode cX4_at 23 = .ok (.dup, 1) := by decide +kernel
theorem dX4_at_24 : decode cX4_at 24 = .ok (.ldc 64, 2) := by decide +kernel
theorem dX4_at_26 : decode cX4_at 26 = .ok (.invokespecial 51, 3) := by decide +kernel
theorem dX4_at_29 : decode cX4_at 29 = .ok (.athrow, 1) := by decide +kernel
theorem dX4_at_30 : decode cX4_at 30 = .ok (.aload_n 3, 1) := by decide +kernel
theorem dX4_at_31 : decode cX4_at 31 = .ok (.iload_n 2, 1) := by decide +kernel
theorem dX4_at_32 : decode cX4_at 32 = .ok (.invokevirtual 69, 3) := by decide +kernel
theorem dX4_at_35 : decode cX4_at 35 = .ok (.ireturn, 1) := by decide +kernel
theorem dX4_monk_0 : decode cX4_monk 0 = .ok (.aload_n 0, 1) := by decide +kernel
theorem dX4_monk_1 : decode cX4_monk 1 = .ok (.getfield 10, 3) := by decide +kernel
theorem dX4_monk_4 : decode cX4_monk 4 = .ok (.iload_n 1, 1) := by decide +kernel
theorem dX4_monk_5 : decode cX4_monk 5 = .ok (.invokevirtual 134, 3) := by decide +kernel
theorem dX4_monk_8 : decode cX4_monk 8 = .ok (.astore_n 3, 1) := by decide +kernel
theorem dX4_monk_9 : decode cX4_monk 9 = .ok (.aload_n 3, 1) := by decide +kernel
theorem dX4_monk_10 : decode cX4_monk 10 = .ok (.ifnull 12, 3) := by decide +kernel
theorem dX4_monk_13 : decode cX4_monk 13 = .ok (.iload_n 2, 1) := by decide +kernel
theorem dX4_monk_14 : decode cX4_monk 14 = .ok (.iconst 0, 1) := by decide +kernel
theorem dX4_monk_15 : decode cX4_monk 15 = .ok (.iconst 4, 1) := by decide +kernel
theorem dX4_monk_16 : decode cX4_monk 16 = .ok (.invokestatic 19, 3) := by decide +kernel
theorem dX4_monk_19 : decode cX4_monk 19 = .ok (.ifCond .ne 13, 3) := by decide +kernel
theorem dX4_monk_22 : decode cX4_monk 22 = .ok (.new 47, 3) := by decide +kernel
theorem dX4_monk_25 : decode cX4_monk 25 = .ok (.dup, 1) := by decide +kernel
theorem dX4_monk_26 : decode cX4_monk 26 = .ok (.ldc 160, 2) := by decide +kernel
theorem dX4_monk_28 : decode cX4_monk 28 = .ok (.invokespecial 51, 3) := by decide +kernel
theorem dX4_monk_31 : decode cX4_monk 31 = .ok (.athrow, 1) := by decide +kernel
theorem dX4_monk_32 : decode cX4_monk 32 = .ok (.aload_n 3, 1) := by decide +kernel
theorem dX4_monk_33 : decode cX4_monk 33 = .ok (.iload_n 2, 1) := by decide +kernel
theorem dX4_monk_34 : decode cX4_monk 34 = .ok (.aload_n 0, 1) := by decide +kernel
theorem dX4_monk_35 : decode cX4_monk 35 = .ok (.getfield 10, 3) := by decide +kernel
theorem dX4_monk_38 : decode cX4_monk 38 = .ok (.getfield 162, 3) := by decide +kernel
theorem dX4_monk_41 : decode cX4_monk 41 = .ok (.invokevirtual 165, 3) := by decide +kernel
theorem dX4_monk_44 : decode cX4_monk 44 = .ok (.ireturn, 1) := by decide +kernel
theorem dX4_count_0 : decode cX4_count 0 = .ok (.iload_n 1, 1) := by decide +kernel
theorem dX4_count_1 : decode cX4_count 1 = .ok (.iconst 0, 1) := by decide +kernel
theorem dX4_count_2 : decode cX4_count 2 = .ok (.bipush 8, 2) := by decide +kernel
theorem dX4_count_4 : decode cX4_count 4 = .ok (.invokestatic 19, 3) := by decide +kernel
theorem dX4_count_7 : decode cX4_count 7 = .ok (.ifCond .ne 13, 3) := by decide +kernel
theorem dX4_count_10 : decode cX4_count 10 = .ok (.new 47, 3) := by decide +kernel
theorem dX4_count_13 : decode cX4_count 13 = .ok (.dup, 1) := by decide +kernel
theorem dX4_count_14 : decode cX4_count 14 = .ok (.ldc 167, 2) := by decide +kernel
theorem dX4_count_16 : decode cX4_count 16 = .ok (.invokespecial 51, 3) := by decide +kernel
theorem dX4_count_19 : decode cX4_count 19 = .ok (.athrow, 1) := by decide +kernel
theorem dX4_count_20 : decode cX4_count 20 = .ok (.aload_n 0, 1) := by decide +kernel
theorem dX4_count_21 : decode cX4_count 21 = .ok (.getfield 10, 3) := by decide +kernel
theorem dX4_count_24 : decode cX4_count 24 = .ok (.iload_n 1, 1) := by decide +kernel
theorem dX4_count_25 : decode cX4_count 25 = .ok (.invokevirtual 169, 3) := by decide +kernel
theorem dX4_count_28 : decode cX4_count 28 = .ok (.ireturn, 1) := by decide +kernel
theorem dX4_pass_0 : decode cX4_pass 0 = .ok (.iload_n 1, 1) := by decide +kernel
theorem dX4_pass_1 : decode cX4_pass 1 = .ok (.iconst 1, 1) := by decide +kernel
theorem dX4_pass_2 : decode cX4_pass 2 = .ok (.bipush 100, 2) := by decide +kernel
theorem dX4_pass_4 : decode cX4_pass 4 = .ok (.invokestatic 19, 3) := by decide +kernel
theorem dX4_pass_7 : decode cX4_pass 7 = .ok (.ifCond .ne 13, 3) := by decide +kernel
theorem dX4_pass_10 : decode cX4_pass 10 = .ok (.new 23, 3) := by decide +kernel
theorem dX4_pass_13 : decode cX4_pass 13 = .ok (.dup, 1) := by decide +kernel
theorem dX4_pass_14 : decode cX4_pass 14 = .ok (.ldc 170, 2) := by decide +kernel
theorem dX4_pass_16 : decode cX4_pass 16 = .ok (.invokespecial 27, 3) := by decide +kernel
theorem dX4_pass_19 : decode cX4_pass 19 = .ok (.athrow, 1) := by decide +kernel
theorem dX4_pass_20 : decode cX4_pass 20 = .ok (.aload_n 0, 1) := by decide +kernel
theorem dX4_pass_21 : decode cX4_pass 21 = .ok (.getfield 10, 3) := by decide +kernel
theorem dX4_pass_24 : decode cX4_pass 24 = .ok (.iconst 2, 1) := by decide +kernel
theorem dX4_pass_25 : decode cX4_pass 25 = .ok (.invokevirtual 172, 3) := by decide +kernel
theorem dX4_pass_28 : decode cX4_pass 28 = .ok (.istore_n 2, 1) := by decide +kernel
theorem dX4_pass_29 : decode cX4_pass 29 = .ok (.aload_n 0, 1) := by decide +kernel
theorem dX4_pass_30 : decode cX4_pass 30 = .ok (.getfield 10, 3) := by decide +kernel
theorem dX4_pass_33 : decode cX4_pass 33 = .ok (.iload_n 1, 1) := by decide +kernel
theorem dX4_pass_34 : decode cX4_pass 34 = .ok (.invokevirtual 175, 3) := by decide +kernel
theorem dX4_pass_37 : decode cX4_pass 37 = .ok (.aload_n 0, 1) := by decide +kernel
theorem dX4_pass_38 : decode cX4_pass 38 = .ok (.getfield 10, 3) := by decide +kernel
theorem dX4_pass_41 : decode cX4_pass 41 = .ok (.iconst 2, 1) := by decide +kernel
theorem dX4_pass_42 : decode cX4_pass 42 = .ok (.invokevirtual 172, 3) := by decide +kernel
theorem dX4_pass_45 : decode cX4_pass 45 = .ok (.iload_n 2, 1) := by decide +kernel
theorem dX4_pass_46 : decode cX4_pass 46 = .ok (.isub, 1) := by decide +kernel
theorem dX4_pass_47 : decode cX4_pass 47 = .ok (.ireturn, 1) := by decide +kernel
theorem dX4_best_0 : decode cX4_best 0 = .ok (.aload_n 0, 1) := by decide +kernel
theorem dX4_best_1 : decode cX4_best 1 = .ok (.getfield 10, 3) := by decide +kernel
theorem dX4_best_4 : decode cX4_best 4 = .ok (.iload_n 1, 1) := by decide +kernel
theorem dX4_best_5 : decode cX4_best 5 = .ok (.invokevirtual 78, 3) := by decide +kernel
theorem dX4_best_8 : decode cX4_best 8 = .ok (.ifnonnull 13, 3) := by decide +kernel
theorem dX4_best_11 : decode cX4_best 11 = .ok (.new 47, 3) := by decide +kernel
theorem dX4_best_14 : decode cX4_best 14 = .ok (.dup, 1) := by decide +kernel
theorem dX4_best_15 : decode cX4_best 15 = .ok (.ldc 101, 2) := by decide +kernel
theorem dX4_best_17 : decode cX4_best 17 = .ok (.invokespecial 51, 3) := by decide +kernel
theorem dX4_best_20 : decode cX4_best 20 = .ok (.athrow, 1) := by decide +kernel
theorem dX4_best_21 : decode cX4_best 21 = .ok (.aload_n 0, 1) := by decide +kernel
theorem dX4_best_22 : decode cX4_best 22 = .ok (.getfield 10, 3) := by decide +kernel
theorem dX4_best_25 : decode cX4_best 25 = .ok (.iload_n 1, 1) := by decide +kernel
theorem dX4_best_26 : decode cX4_best 26 = .ok (.invokevirtual 84, 3) := by decide +kernel
theorem dX4_best_29 : decode cX4_best 29 = .ok (.ifnonnull 5, 3) := by decide +kernel
theorem dX4_best_32 : decode cX4_best 32 = .ok (.iconst (-1), 1) := by decide +kernel
theorem dX4_best_33 : decode cX4_best 33 = .ok (.ireturn, 1) := by decide +kernel
theorem dX4_best_34 : decode cX4_best 34 = .ok (.aload_n 0, 1) := by decide +kernel
theorem dX4_best_35 : decode cX4_best 35 = .ok (.getfield 16, 3) := by decide +kernel
theorem dX4_best_38 : decode cX4_best 38 = .ok (.aload_n 0, 1) := by decide +kernel
theorem dX4_best_39 : decode cX4_best 39 = .ok (.getfield 10, 3) := by decide +kernel
theorem dX4_best_42 : decode cX4_best 42 = .ok (.invokevirtual 179, 3) := by decide +kernel
theorem dX4_best_45 : decode cX4_best 45 = .ok (.iconst 0, 1) := by decide +kernel
theorem dX4_best_46 : decode cX4_best 46 = .ok (.istore_n 2, 1) := by decide +kernel
theorem dX4_best_47 : decode cX4_best 47 = .ok (.aload_n 0, 1) := by decide +kernel
theorem dX4_best_48 : decode cX4_best 48 = .ok (.getfield 16, 3) := by decide +kernel
theorem dX4_best_51 : decode cX4_best 51 = .ok (.iload_n 1, 1) := by decide +kernel
theorem dX4_best_52 : decode cX4_best 52 = .ok (.invokevirtual 183, 3) := by decide +kernel
theorem dX4_best_55 : decode cX4_best 55 = .ok (.istore_n 3, 1) := by decide +kernel
theorem dX4_best_56 : decode cX4_best 56 = .ok (.iconst 1, 1) := by decide +kernel
theorem dX4_best_57 : decode cX4_best 57 = .ok (.istore 4, 2) := by decide +kernel
theorem dX4_best_59 : decode cX4_best 59 = .ok (.iload 4, 2) := by decide +kernel
theorem dX4_best_61 : decode cX4_best 61 = .ok (.bipush 60, 2) := by decide +kernel
theorem dX4_best_63 : decode cX4_best 63 = .ok (.if_icmp .gt 39, 3) := by decide +kernel
theorem dX4_best_66 : decode cX4_best 66 = .ok (.aload_n 0, 1) := by decide +kernel
theorem dX4_best_67 : decode cX4_best 67 = .ok (.getfield 16, 3) := by decide +kernel
theorem dX4_best_70 : decode cX4_best 70 = .ok (.iconst 1, 1) := by decide +kernel
theorem dX4_best_71 : decode cX4_best 71 = .ok (.invokevirtual 175, 3) := by decide +kernel
theorem dX4_best_74 : decode cX4_best 74 = .ok (.aload_n 0, 1) := by decide +kernel
theorem dX4_best_75 : decode cX4_best 75 = .ok (.getfield 16, 3) := by decide +kernel
theorem dX4_best_78 : decode cX4_best 78 = .ok (.iload_n 1, 1) := by decide +kernel
theorem dX4_best_79 : decode cX4_best 79 = .ok (.invokevirtual 183, 3) := by decide +kernel
theorem dX4_best_82 : decode cX4_best 82 = .ok (.istore 5, 2) := by decide +kernel
theorem dX4_best_84 : decode cX4_best 84 = .ok (.iload 5, 2) := by decide +kernel
theorem dX4_best_86 : decode cX4_best 86 = .ok (.iload_n 3, 1) := by decide +kernel
theorem dX4_best_87 : decode cX4_best 87 = .ok (.if_icmp .le 9, 3) := by decide +kernel
theorem dX4_best_90 : decode cX4_best 90 = .ok (.iload 5, 2) := by decide +kernel
theorem dX4_best_92 : decode cX4_best 92 = .ok (.istore_n 3, 1) := by decide +kernel
theorem dX4_best_93 : decode cX4_best 93 = .ok (.iload 4, 2) := by decide +kernel
theorem dX4_best_95 : decode cX4_best 95 = .ok (.istore_n 2, 1) := by decide +kernel
theorem dX4_best_96 : decode cX4_best 96 = .ok (.iinc 4 1, 3) := by decide +kernel
theorem dX4_best_99 : decode cX4_best 99 = .ok (.goto (-40), 3) := by decide +kernel
theorem dX4_best_102 : decode cX4_best 102 = .ok (.iload_n 2, 1) := by decide +kernel
theorem dX4_best_103 : decode cX4_best 103 = .ok (.ireturn, 1) := by decide +kernel
theorem dX4_foresee_0 : decode cX4_foresee 0 = .ok (.iload_n 1, 1) := by decide +kernel
theorem dX4_foresee_1 : decode cX4_foresee 1 = .ok (.iconst 1, 1) := by decide +kernel
theorem dX4_foresee_2 : decode cX4_foresee 2 = .ok (.bipush 100, 2) := by decide +kernel
theorem dX4_foresee_4 : decode cX4_foresee 4 = .ok (.invokestatic 19, 3) := by decide +kernel
theorem dX4_foresee_7 : decode cX4_foresee 7 = .ok (.ifCond .ne 13, 3) := by decide +kernel
theorem dX4_foresee_10 : decode cX4_foresee 10 = .ok (.new 23, 3) := by decide +kernel
theorem dX4_foresee_13 : decode cX4_foresee 13 = .ok (.dup, 1) := by decide +kernel
theorem dX4_foresee_14 : decode cX4_foresee 14 = .ok (.ldc 170, 2) := by decide +kernel
theorem dX4_foresee_16 : decode cX4_foresee 16 = .ok (.invokespecial 27, 3) := by decide +kernel
theorem dX4_foresee_19 : decode cX4_foresee 19 = .ok (.athrow, 1) := by decide +kernel
theorem dX4_foresee_20 : decode cX4_foresee 20 = .ok (.iload_n 2, 1) := by decide +kernel
theorem dX4_foresee_21 : decode cX4_foresee 21 = .ok (.iconst 0, 1) := by decide +kernel
theorem dX4_foresee_22 : decode cX4_foresee 22 = .ok (.iconst 2, 1) := by decide +kernel
theorem dX4_foresee_23 : decode cX4_foresee 23 = .ok (.invokestatic 19, 3) := by decide +kernel
theorem dX4_foresee_26 : decode cX4_foresee 26 = .ok (.ifCond .ne 13, 3) := by decide +kernel
theorem dX4_foresee_29 : decode cX4_foresee 29 = .ok (.new 47, 3) := by decide +kernel
theorem dX4_foresee_32 : decode cX4_foresee 32 = .ok (.dup, 1) := by decide +kernel
theorem dX4_foresee_33 : decode cX4_foresee 33 = .ok (.ldc 186, 2) := by decide +kernel
theorem dX4_foresee_35 : decode cX4_foresee 35 = .ok (.invokespecial 51, 3) := by decide +kernel
theorem dX4_foresee_38 : decode cX4_foresee 38 = .ok (.athrow, 1) := by decide +kernel
theorem dX4_foresee_39 : decode cX4_foresee 39 = .ok (.aload_n 0, 1) := by decide +kernel
theorem dX4_foresee_40 : decode cX4_foresee 40 = .ok (.getfield 16, 3) := by decide +kernel
theorem dX4_foresee_43 : decode cX4_foresee 43 = .ok (.aload_n 0, 1) := by decide +kernel
theorem dX4_foresee_44 : decode cX4_foresee 44 = .ok (.getfield 10, 3) := by decide +kernel
theorem dX4_foresee_47 : decode cX4_foresee 47 = .ok (.invokevirtual 179, 3) := by decide +kernel
theorem dX4_foresee_50 : decode cX4_foresee 50 = .ok (.aload_n 0, 1) := by decide +kernel
theorem dX4_foresee_51 : decode cX4_foresee 51 = .ok (.getfield 16, 3) := by decide +kernel
theorem dX4_foresee_54 : decode cX4_foresee 54 = .ok (.iload_n 1, 1) := by decide +kernel
theorem dX4_foresee_55 : decode cX4_foresee 55 = .ok (.invokevirtual 175, 3) := by decide +kernel
theorem dX4_foresee_58 : decode cX4_foresee 58 = .ok (.iload_n 2, 1) := by decide +kernel
theorem dX4_foresee_59 : decode cX4_foresee 59 = .ok (.lookupswitch 42 #[(0, 25), (1, 34)], 25) := by decide +kernel
theorem dX4_foresee_84 : decode cX4_foresee 84 = .ok (.aload_n 0, 1) := by decide +kernel
theorem dX4_foresee_85 : decode cX4_foresee 85 = .ok (.getfield 16, 3) := by decide +kernel
theorem dX4_foresee_88 : decode cX4_foresee 88 = .ok (.iconst 2, 1) := by decide +kernel
theorem dX4_foresee_89 : decode cX4_foresee 89 = .ok (.invokevirtual 172, 3) := by decide +kernel
theorem dX4_foresee_92 : decode cX4_foresee 92 = .ok (.ireturn, 1) := by decide +kernel
theorem dX4_foresee_93 : decode cX4_foresee 93 = .ok (.aload_n 0, 1) := by decide +kernel
theorem dX4_foresee_94 : decode cX4_foresee 94 = .ok (.getfield 16, 3) := by decide +kernel
theorem dX4_foresee_97 : decode cX4_foresee 97 = .ok (.invokevirtual 188, 3) := by decide +kernel
theorem dX4_foresee_100 : decode cX4_foresee 100 = .ok (.ireturn, 1) := by decide +kernel
theorem dX4_foresee_101 : decode cX4_foresee 101 = .ok (.aload_n 0, 1) := by decide +kernel
theorem dX4_foresee_102 : decode cX4_foresee 102 = .ok (.getfield 16, 3) := by decide +kernel
theorem dX4_foresee_105 : decode cX4_foresee 105 = .ok (.invokevirtual 191, 3) := by decide +kernel
theorem dX4_foresee_108 : decode cX4_foresee 108 = .ok (.ireturn, 1) := by decide +kernel
theorem dX4_advise_0 : decode cX4_advise 0 = .ok (.aload_n 0, 1) := by decide +kernel
theorem dX4_advise_1 : decode cX4_advise 1 = .ok (.getfield 10, 3) := by decide +kernel
theorem dX4_advise_4 : decode cX4_advise 4 = .ok (.iload_n 1, 1) := by decide +kernel
theorem dX4_advise_5 : decode cX4_advise 5 = .ok (.invokevirtual 78, 3) := by decide +kernel
theorem dX4_advise_8 : decode cX4_advise 8 = .ok (.ifnonnull 13, 3) := by decide +kernel
theorem dX4_advise_11 : decode cX4_advise 11 = .ok (.new 47, 3) := by decide +kernel
theorem dX4_advise_14 : decode cX4_advise 14 = .ok (.dup, 1) := by decide +kernel
theorem dX4_advise_15 : decode cX4_advise 15 = .ok (.ldc 101, 2) := by decide +kernel
theorem dX4_advise_17 : decode cX4_advise 17 = .ok (.invokespecial 51, 3) := by decide +kernel
theorem dX4_advise_20 : decode cX4_advise 20 = .ok (.athrow, 1) := by decide +kernel
theorem dX4_advise_21 : decode cX4_advise 21 = .ok (.iload_n 2, 1) := by decide +kernel
theorem dX4_advise_22 : decode cX4_advise 22 = .ok (.iconst 1, 1) := by decide +kernel
theorem dX4_advise_23 : decode cX4_advise 23 = .ok (.bipush 40, 2) := by decide +kernel
theorem dX4_advise_25 : decode cX4_advise 25 = .ok (.invokestatic 19, 3) := by decide +kernel
theorem dX4_advise_28 : decode cX4_advise 28 = .ok (.ifCond .ne 13, 3) := by decide +kernel
theorem dX4_advise_31 : decode cX4_advise 31 = .ok (.new 23, 3) := by decide +kernel
theorem dX4_advise_34 : decode cX4_advise 34 = .ok (.dup, 1) := by decide +kernel
theorem dX4_advise_35 : decode cX4_advise 35 = .ok (.ldc 194, 2) := by decide +kernel
theorem dX4_advise_37 : decode cX4_advise 37 = .ok (.invokespecial 27, 3) := by decide +kernel
theorem dX4_advise_40 : decode cX4_advise 40 = .ok (.athrow, 1) := by decide +kernel
theorem dX4_advise_41 : decode cX4_advise 41 = .ok (.iconst (-1), 1) := by decide +kernel
theorem dX4_advise_42 : decode cX4_advise 42 = .ok (.istore_n 3, 1) := by decide +kernel
theorem dX4_advise_43 : decode cX4_advise 43 = .ok (.iconst (-1), 1) := by decide +kernel
theorem dX4_advise_44 : decode cX4_advise 44 = .ok (.istore 4, 2) := by decide +kernel
theorem dX4_advise_46 : decode cX4_advise 46 = .ok (.iconst 0, 1) := by decide +kernel
theorem dX4_advise_47 : decode cX4_advise 47 = .ok (.istore 5, 2) := by decide +kernel
theorem dX4_advise_49 : decode cX4_advise 49 = .ok (.iload 5, 2) := by decide +kernel
theorem dX4_advise_51 : decode cX4_advise 51 = .ok (.iconst 4, 1) := by decide +kernel
theorem dX4_advise_52 : decode cX4_advise 52 = .ok (.if_icmp .ge 33, 3) := by decide +kernel
theorem dX4_advise_55 : decode cX4_advise 55 = .ok (.aload_n 0, 1) := by decide +kernel
theorem dX4_advise_56 : decode cX4_advise 56 = .ok (.iload_n 1, 1) := by decide +kernel
theorem dX4_advise_57 : decode cX4_advise 57 = .ok (.iload 5, 2) := by decide +kernel
theorem dX4_advise_59 : decode cX4_advise 59 = .ok (.iload_n 2, 1) := by decide +kernel
theorem dX4_advise_60 : decode cX4_advise 60 = .ok (.invokevirtual 196, 3) := by decide +kernel
theorem dX4_advise_63 : decode cX4_advise 63 = .ok (.istore 6, 2) := by decide +kernel
theorem dX4_advise_65 : decode cX4_advise 65 = .ok (.iload 6, 2) := by decide +kernel
theorem dX4_advise_67 : decode cX4_advise 67 = .ok (.iload 4, 2) := by decide +kernel
theorem dX4_advise_69 : decode cX4_advise 69 = .ok (.if_icmp .le 10, 3) := by decide +kernel
theorem dX4_advise_72 : decode cX4_advise 72 = .ok (.iload 6, 2) := by decide +kernel
theorem dX4_advise_74 : decode cX4_advise 74 = .ok (.istore 4, 2) := by decide +kernel
theorem dX4_advise_76 : decode cX4_advise 76 = .ok (.iload 5, 2) := by decide +kernel
theorem dX4_advise_78 : decode cX4_advise 78 = .ok (.istore_n 3, 1) := by decide +kernel
theorem dX4_advise_79 : decode cX4_advise 79 = .ok (.iinc 5 1, 3) := by decide +kernel
theorem dX4_advise_82 : decode cX4_advise 82 = .ok (.goto (-33), 3) := by decide +kernel
theorem dX4_advise_85 : decode cX4_advise 85 = .ok (.iload_n 3, 1) := by decide +kernel
theorem dX4_advise_86 : decode cX4_advise 86 = .ok (.ireturn, 1) := by decide +kernel
theorem dX4_mean_0 : decode cX4_mean 0 = .ok (.aload_n 0, 1) := by decide +kernel
theorem dX4_mean_1 : decode cX4_mean 1 = .ok (.getfield 10, 3) := by decide +kernel
theorem dX4_mean_4 : decode cX4_mean 4 = .ok (.iconst 0, 1) := by decide +kernel
theorem dX4_mean_5 : decode cX4_mean 5 = .ok (.invokevirtual 172, 3) := by decide +kernel
theorem dX4_mean_8 : decode cX4_mean 8 = .ok (.istore_n 1, 1) := by decide +kernel
theorem dX4_mean_9 : decode cX4_mean 9 = .ok (.iload_n 1, 1) := by decide +kernel
theorem dX4_mean_10 : decode cX4_mean 10 = .ok (.ifCond .ne 5, 3) := by decide +kernel
theorem dX4_mean_13 : decode cX4_mean 13 = .ok (.dconst 0, 1) := by decide +kernel
theorem dX4_mean_14 : decode cX4_mean 14 = .ok (.dreturn, 1) := by decide +kernel
theorem dX4_mean_15 : decode cX4_mean 15 = .ok (.aload_n 0, 1) := by decide +kernel
theorem dX4_mean_16 : decode cX4_mean 16 = .ok (.getfield 10, 3) := by decide +kernel
theorem dX4_mean_19 : decode cX4_mean 19 = .ok (.invokevirtual 191, 3) := by decide +kernel
theorem dX4_mean_22 : decode cX4_mean 22 = .ok (.i2d, 1) := by decide +kernel
theorem dX4_mean_23 : decode cX4_mean 23 = .ok (.iload_n 1, 1) := by decide +kernel
theorem dX4_mean_24 : decode cX4_mean 24 = .ok (.i2d, 1) := by decide +kernel
theorem dX4_mean_25 : decode cX4_mean 25 = .ok (.ddiv, 1) := by decide +kernel
theorem dX4_mean_26 : decode cX4_mean 26 = .ok (.dreturn, 1) := by decide +kernel
theorem dX4_digest_0 : decode cX4_digest 0 = .ok (.ldc2_w 200, 3) := by decide +kernel
theorem dX4_digest_3 : decode cX4_digest 3 = .ok (.lstore_n 1, 1) := by decide +kernel
theorem dX4_digest_4 : decode cX4_digest 4 = .ok (.iconst 0, 1) := by decide +kernel
theorem dX4_digest_5 : decode cX4_digest 5 = .ok (.istore_n 3, 1) := by decide +kernel
theorem dX4_digest_6 : decode cX4_digest 6 = .ok (.iload_n 3, 1) := by decide +kernel
theorem dX4_digest_7 : decode cX4_digest 7 = .ok (.bipush 9, 2) := by decide +kernel
theorem dX4_digest_9 : decode cX4_digest 9 = .ok (.if_icmp .ge 25, 3) := by decide +kernel
theorem dX4_digest_12 : decode cX4_digest 12 = .ok (.lload_n 1, 1) := by decide +kernel
theorem dX4_digest_13 : decode cX4_digest 13 = .ok (.ldc2_w 202, 3) := by decide +kernel
theorem dX4_digest_16 : decode cX4_digest 16 = .ok (.lmul, 1) := by decide +kernel
theorem dX4_digest_17 : decode cX4_digest 17 = .ok (.aload_n 0, 1) := by decide +kernel
theorem dX4_digest_18 : decode cX4_digest 18 = .ok (.getfield 10, 3) := by decide +kernel
theorem dX4_digest_21 : decode cX4_digest 21 = .ok (.iload_n 3, 1) := by decide +kernel
theorem dX4_digest_22 : decode cX4_digest 22 = .ok (.invokevirtual 169, 3) := by decide +kernel
theorem dX4_digest_25 : decode cX4_digest 25 = .ok (.i2l, 1) := by decide +kernel
theorem dX4_digest_26 : decode cX4_digest 26 = .ok (.ladd, 1) := by decide +kernel
theorem dX4_digest_27 : decode cX4_digest 27 = .ok (.lstore_n 1, 1) := by decide +kernel
theorem dX4_digest_28 : decode cX4_digest 28 = .ok (.iinc 3 1, 3) := by decide +kernel
theorem dX4_digest_31 : decode cX4_digest 31 = .ok (.goto (-25), 3) := by decide +kernel
theorem dX4_digest_34 : decode cX4_digest 34 = .ok (.iconst 0, 1) := by decide +kernel
theorem dX4_digest_35 : decode cX4_digest 35 = .ok (.istore_n 3, 1) := by decide +kernel
theorem dX4_digest_36 : decode cX4_digest 36 = .ok (.iload_n 3, 1) := by decide +kernel
theorem dX4_digest_37 : decode cX4_digest 37 = .ok (.aload_n 0, 1) := by decide +kernel
theorem dX4_digest_38 : decode cX4_digest 38 = .ok (.getfield 10, 3) := by decide +kernel
theorem dX4_digest_41 : decode cX4_digest 41 = .ok (.getfield 30, 3) := by decide +kernel
theorem dX4_digest_44 : decode cX4_digest 44 = .ok (.if_icmp .ge 42, 3) := by decide +kernel
theorem dX4_digest_47 : decode cX4_digest 47 = .ok (.iconst 0, 1) := by decide +kernel
theorem dX4_digest_48 : decode cX4_digest 48 = .ok (.istore 4, 2) := by decide +kernel
theorem dX4_digest_50 : decode cX4_digest 50 = .ok (.iload 4, 2) := by decide +kernel
theorem dX4_digest_52 : decode cX4_digest 52 = .ok (.iconst 4, 1) := by decide +kernel
theorem dX4_digest_53 : decode cX4_digest 53 = .ok (.if_icmp .ge 27, 3) := by decide +kernel
theorem dX4_digest_56 : decode cX4_digest 56 = .ok (.lload_n 1, 1) := by decide +kernel
theorem dX4_digest_57 : decode cX4_digest 57 = .ok (.ldc2_w 202, 3) := by decide +kernel
theorem dX4_digest_60 : decode cX4_digest 60 = .ok (.lmul, 1) := by decide +kernel
theorem dX4_digest_61 : decode cX4_digest 61 = .ok (.aload_n 0, 1) := by decide +kernel
theorem dX4_digest_62 : decode cX4_digest 62 = .ok (.getfield 10, 3) := by decide +kernel
theorem dX4_digest_65 : decode cX4_digest 65 = .ok (.iload_n 3, 1) := by decide +kernel
theorem dX4_digest_66 : decode cX4_digest 66 = .ok (.iload 4, 2) := by decide +kernel
theorem dX4_digest_68 : decode cX4_digest 68 = .ok (.invokevirtual 157, 3) := by decide +kernel
theorem dX4_digest_71 : decode cX4_digest 71 = .ok (.i2l, 1) := by decide +kernel
theorem dX4_digest_72 : decode cX4_digest 72 = .ok (.ladd, 1) := by decide +kernel
theorem dX4_digest_73 : decode cX4_digest 73 = .ok (.lstore_n 1, 1) := by decide +kernel
theorem dX4_digest_74 : decode cX4_digest 74 = .ok (.iinc 4 1, 3) := by decide +kernel
theorem dX4_digest_77 : decode cX4_digest 77 = .ok (.goto (-27), 3) := by decide +kernel
theorem dX4_digest_80 : decode cX4_digest 80 = .ok (.iinc 3 1, 3) := by decide +kernel
theorem dX4_digest_83 : decode cX4_digest 83 = .ok (.goto (-47), 3) := by decide +kernel
theorem dX4_digest_86 : decode cX4_digest 86 = .ok (.iconst 0, 1) := by decide +kernel
theorem dX4_digest_87 : decode cX4_digest 87 = .ok (.istore_n 3, 1) := by decide +kernel
theorem dX4_digest_88 : decode cX4_digest 88 = .ok (.iload_n 3, 1) := by decide +kernel
theorem dX4_digest_89 : decode cX4_digest 89 = .ok (.aload_n 0, 1) := by decide +kernel
theorem dX4_digest_90 : decode cX4_digest 90 = .ok (.getfield 10, 3) := by decide +kernel
theorem dX4_digest_93 : decode cX4_digest 93 = .ok (.getfield 66, 3) := by decide +kernel
theorem dX4_digest_96 : decode cX4_digest 96 = .ok (.if_icmp .ge 22, 3) := by decide +kernel
theorem dX4_digest_99 : decode cX4_digest 99 = .ok (.lload_n 1, 1) := by decide +kernel
theorem dX4_digest_100 : decode cX4_digest 100 = .ok (.aload_n 0, 1) := by decide +kernel
theorem dX4_digest_101 : decode cX4_digest 101 = .ok (.getfield 10, 3) := by decide +kernel
theorem dX4_digest_104 : decode cX4_digest 104 = .ok (.iload_n 3, 1) := by decide +kernel
theorem dX4_digest_105 : decode cX4_digest 105 = .ok (.invokevirtual 78, 3) := by decide +kernel
theorem dX4_digest_108 : decode cX4_digest 108 = .ok (.invokestatic 204, 3) := by decide +kernel
theorem dX4_digest_111 : decode cX4_digest 111 = .ok (.lstore_n 1, 1) := by decide +kernel
theorem dX4_digest_112 : decode cX4_digest 112 = .ok (.iinc 3 1, 3) := by decide +kernel
theorem dX4_digest_115 : decode cX4_digest 115 = .ok (.goto (-27), 3) := by decide +kernel
theorem dX4_digest_118 : decode cX4_digest 118 = .ok (.iconst 0, 1) := by decide +kernel
theorem dX4_digest_119 : decode cX4_digest 119 = .ok (.istore_n 3, 1) := by decide +kernel
theorem dX4_digest_120 : decode cX4_digest 120 = .ok (.iload_n 3, 1) := by decide +kernel
theorem dX4_digest_121 : decode cX4_digest 121 = .ok (.aload_n 0, 1) := by decide +kernel
theorem dX4_digest_122 : decode cX4_digest 122 = .ok (.getfield 10, 3) := by decide +kernel
theorem dX4_digest_125 : decode cX4_digest 125 = .ok (.getfield 126, 3) := by decide +kernel
theorem dX4_digest_128 : decode cX4_digest 128 = .ok (.if_icmp .ge 23, 3) := by decide +kernel
theorem dX4_digest_131 : decode cX4_digest 131 = .ok (.aload_n 0, 1) := by decide +kernel
theorem dX4_digest_132 : decode cX4_digest 132 = .ok (.lload_n 1, 1) := by decide +kernel
theorem dX4_digest_133 : decode cX4_digest 133 = .ok (.aload_n 0, 1) := by decide +kernel
theorem dX4_digest_134 : decode cX4_digest 134 = .ok (.getfield 10, 3) := by decide +kernel
theorem dX4_digest_137 : decode cX4_digest 137 = .ok (.iload_n 3, 1) := by decide +kernel
theorem dX4_digest_138 : decode cX4_digest 138 = .ok (.invokevirtual 134, 3) := by decide +kernel
theorem dX4_digest_141 : decode cX4_digest 141 = .ok (.invokevirtual 208, 3) := by decide +kernel
theorem dX4_digest_144 : decode cX4_digest 144 = .ok (.lstore_n 1, 1) := by decide +kernel
theorem dX4_digest_145 : decode cX4_digest 145 = .ok (.iinc 3 1, 3) := by decide +kernel
theorem dX4_digest_148 : decode cX4_digest 148 = .ok (.goto (-28), 3) := by decide +kernel
theorem dX4_digest_151 : decode cX4_digest 151 = .ok (.lload_n 1, 1) := by decide +kernel
theorem dX4_digest_152 : decode cX4_digest 152 = .ok (.lreturn, 1) := by decide +kernel
theorem dX4_digestOfWheel_0 : decode cX4_digestOfWheel 0 = .ok (.lload_n 0, 1) := by decide +kernel
theorem dX4_digestOfWheel_1 : decode cX4_digestOfWheel 1 = .ok (.lstore_n 3, 1) := by decide +kernel
theorem dX4_digestOfWheel_2 : decode cX4_digestOfWheel 2 = .ok (.iconst 0, 1) := by decide +kernel
theorem dX4_digestOfWheel_3 : decode cX4_digestOfWheel 3 = .ok (.istore 5, 2) := by decide +kernel
theorem dX4_digestOfWheel_5 : decode cX4_digestOfWheel 5 = .ok (.iload 5, 2) := by decide +kernel
theorem dX4_digestOfWheel_7 : decode cX4_digestOfWheel 7 = .ok (.bipush 11, 2) := by decide +kernel
theorem dX4_digestOfWheel_9 : decode cX4_digestOfWheel 9 = .ok (.if_icmp .ge 27, 3) := by decide +kernel
theorem dX4_digestOfWheel_12 : decode cX4_digestOfWheel 12 = .ok (.aload_n 2, 1) := by decide +kernel
theorem dX4_digestOfWheel_13 : decode cX4_digestOfWheel 13 = .ok (.ifnull 23, 3) := by decide +kernel
theorem dX4_digestOfWheel_16 : decode cX4_digestOfWheel 16 = .ok (.lload_n 3, 1) := by decide +kernel
theorem dX4_digestOfWheel_17 : decode cX4_digestOfWheel 17 = .ok (.ldc2_w 202, 3) := by decide +kernel
theorem dX4_digestOfWheel_20 : decode cX4_digestOfWheel 20 = .ok (.lmul, 1) := by decide +kernel
theorem dX4_digestOfWheel_21 : decode cX4_digestOfWheel 21 = .ok (.aload_n 2, 1) := by decide +kernel
theorem dX4_digestOfWheel_22 : decode cX4_digestOfWheel 22 = .ok (.iload 5, 2) := by decide +kernel
theorem dX4_digestOfWheel_24 : decode cX4_digestOfWheel 24 = .ok (.invokevirtual 152, 3) := by decide +kernel
theorem dX4_digestOfWheel_27 : decode cX4_digestOfWheel 27 = .ok (.i2l, 1) := by decide +kernel
theorem dX4_digestOfWheel_28 : decode cX4_digestOfWheel 28 = .ok (.ladd, 1) := by decide +kernel
theorem dX4_digestOfWheel_29 : decode cX4_digestOfWheel 29 = .ok (.lstore_n 3, 1) := by decide +kernel
theorem dX4_digestOfWheel_30 : decode cX4_digestOfWheel 30 = .ok (.iinc 5 1, 3) := by decide +kernel
theorem dX4_digestOfWheel_33 : decode cX4_digestOfWheel 33 = .ok (.goto (-28), 3) := by decide +kernel
theorem dX4_digestOfWheel_36 : decode cX4_digestOfWheel 36 = .ok (.lload_n 3, 1) := by decide +kernel
theorem dX4_digestOfWheel_37 : decode cX4_digestOfWheel 37 = .ok (.lreturn, 1) := by decide +kernel
theorem dX4_digestOfMonk_0 : decode cX4_digestOfMonk 0 = .ok (.lload_n 1, 1) := by decide +kernel
theorem dX4_digestOfMonk_1 : decode cX4_digestOfMonk 1 = .ok (.lstore 4, 2) := by decide +kernel
theorem dX4_digestOfMonk_3 : decode cX4_digestOfMonk 3 = .ok (.iconst 0, 1) := by decide +kernel
theorem dX4_digestOfMonk_4 : decode cX4_digestOfMonk 4 = .ok (.istore 6, 2) := by decide +kernel
theorem dX4_digestOfMonk_6 : decode cX4_digestOfMonk 6 = .ok (.iload 6, 2) := by decide +kernel
theorem dX4_digestOfMonk_8 : decode cX4_digestOfMonk 8 = .ok (.iconst 5, 1) := by decide +kernel
theorem dX4_digestOfMonk_9 : decode cX4_digestOfMonk 9 = .ok (.if_icmp .ge 36, 3) := by decide +kernel
theorem dX4_digestOfMonk_12 : decode cX4_digestOfMonk 12 = .ok (.aload_n 3, 1) := by decide +kernel
theorem dX4_digestOfMonk_13 : decode cX4_digestOfMonk 13 = .ok (.ifnull 32, 3) := by decide +kernel
theorem dX4_digestOfMonk_16 : decode cX4_digestOfMonk 16 = .ok (.lload 4, 2) := by decide +kernel
theorem dX4_digestOfMonk_18 : decode cX4_digestOfMonk 18 = .ok (.ldc2_w 202, 3) := by decide +kernel
theorem dX4_digestOfMonk_21 : decode cX4_digestOfMonk 21 = .ok (.lmul, 1) := by decide +kernel
theorem dX4_digestOfMonk_22 : decode cX4_digestOfMonk 22 = .ok (.aload_n 3, 1) := by decide +kernel
theorem dX4_digestOfMonk_23 : decode cX4_digestOfMonk 23 = .ok (.iload 6, 2) := by decide +kernel
theorem dX4_digestOfMonk_25 : decode cX4_digestOfMonk 25 = .ok (.aload_n 0, 1) := by decide +kernel
theorem dX4_digestOfMonk_26 : decode cX4_digestOfMonk 26 = .ok (.getfield 10, 3) := by decide +kernel
theorem dX4_digestOfMonk_29 : decode cX4_digestOfMonk 29 = .ok (.getfield 162, 3) := by decide +kernel
theorem dX4_digestOfMonk_32 : decode cX4_digestOfMonk 32 = .ok (.invokevirtual 165, 3) := by decide +kernel
theorem dX4_digestOfMonk_35 : decode cX4_digestOfMonk 35 = .ok (.i2l, 1) := by decide +kernel
theorem dX4_digestOfMonk_36 : decode cX4_digestOfMonk 36 = .ok (.ladd, 1) := by decide +kernel
theorem dX4_digestOfMonk_37 : decode cX4_digestOfMonk 37 = .ok (.lstore 4, 2) := by decide +kernel
theorem dX4_digestOfMonk_39 : decode cX4_digestOfMonk 39 = .ok (.iinc 6 1, 3) := by decide +kernel
theorem dX4_digestOfMonk_42 : decode cX4_digestOfMonk 42 = .ok (.goto (-36), 3) := by decide +kernel
theorem dX4_digestOfMonk_45 : decode cX4_digestOfMonk 45 = .ok (.iconst 0, 1) := by decide +kernel
theorem dX4_digestOfMonk_46 : decode cX4_digestOfMonk 46 = .ok (.istore 6, 2) := by decide +kernel
theorem dX4_digestOfMonk_48 : decode cX4_digestOfMonk 48 = .ok (.iload 6, 2) := by decide +kernel
theorem dX4_digestOfMonk_50 : decode cX4_digestOfMonk 50 = .ok (.bipush 7, 2) := by decide +kernel
theorem dX4_digestOfMonk_52 : decode cX4_digestOfMonk 52 = .ok (.if_icmp .ge 29, 3) := by decide +kernel
theorem dX4_digestOfMonk_55 : decode cX4_digestOfMonk 55 = .ok (.aload_n 3, 1) := by decide +kernel
theorem dX4_digestOfMonk_56 : decode cX4_digestOfMonk 56 = .ok (.ifnull 25, 3) := by decide +kernel
theorem dX4_digestOfMonk_59 : decode cX4_digestOfMonk 59 = .ok (.lload 4, 2) := by decide +kernel
theorem dX4_digestOfMonk_61 : decode cX4_digestOfMonk 61 = .ok (.ldc2_w 202, 3) := by decide +kernel
theorem dX4_digestOfMonk_64 : decode cX4_digestOfMonk 64 = .ok (.lmul, 1) := by decide +kernel
theorem dX4_digestOfMonk_65 : decode cX4_digestOfMonk 65 = .ok (.aload_n 3, 1) := by decide +kernel
theorem dX4_digestOfMonk_66 : decode cX4_digestOfMonk 66 = .ok (.iload 6, 2) := by decide +kernel
theorem dX4_digestOfMonk_68 : decode cX4_digestOfMonk 68 = .ok (.invokevirtual 142, 3) := by decide +kernel
theorem dX4_digestOfMonk_71 : decode cX4_digestOfMonk 71 = .ok (.i2l, 1) := by decide +kernel
theorem dX4_digestOfMonk_72 : decode cX4_digestOfMonk 72 = .ok (.ladd, 1) := by decide +kernel
theorem dX4_digestOfMonk_73 : decode cX4_digestOfMonk 73 = .ok (.lstore 4, 2) := by decide +kernel
theorem dX4_digestOfMonk_75 : decode cX4_digestOfMonk 75 = .ok (.iinc 6 1, 3) := by decide +kernel
theorem dX4_digestOfMonk_78 : decode cX4_digestOfMonk 78 = .ok (.goto (-30), 3) := by decide +kernel
theorem dX4_digestOfMonk_81 : decode cX4_digestOfMonk 81 = .ok (.lload 4, 2) := by decide +kernel
theorem dX4_digestOfMonk_83 : decode cX4_digestOfMonk 83 = .ok (.lreturn, 1) := by decide +kernel
theorem dX4_worthFromCellar_0 : decode cX4_worthFromCellar 0 = .ok (.aload_n 0, 1) := by decide +kernel
theorem dX4_worthFromCellar_1 : decode cX4_worthFromCellar 1 = .ok (.getfield 10, 3) := by decide +kernel
theorem dX4_worthFromCellar_4 : decode cX4_worthFromCellar 4 = .ok (.iload_n 1, 1) := by decide +kernel
theorem dX4_worthFromCellar_5 : decode cX4_worthFromCellar 5 = .ok (.invokevirtual 84, 3) := by decide +kernel
theorem dX4_worthFromCellar_8 : decode cX4_worthFromCellar 8 = .ok (.astore 4, 2) := by decide +kernel
theorem dX4_worthFromCellar_10 : decode cX4_worthFromCellar 10 = .ok (.aload_n 0, 1) := by decide +kernel
theorem dX4_worthFromCellar_11 : decode cX4_worthFromCellar 11 = .ok (.getfield 10, 3) := by decide +kernel
theorem dX4_worthFromCellar_14 : decode cX4_worthFromCellar 14 = .ok (.iload_n 2, 1) := by decide +kernel
theorem dX4_worthFromCellar_15 : decode cX4_worthFromCellar 15 = .ok (.invokevirtual 43, 3) := by decide +kernel
theorem dX4_worthFromCellar_18 : decode cX4_worthFromCellar 18 = .ok (.astore 5, 2) := by decide +kernel
theorem dX4_worthFromCellar_20 : decode cX4_worthFromCellar 20 = .ok (.aload 4, 2) := by decide +kernel
theorem dX4_worthFromCellar_22 : decode cX4_worthFromCellar 22 = .ok (.ifnull 8, 3) := by decide +kernel
theorem dX4_worthFromCellar_25 : decode cX4_worthFromCellar 25 = .ok (.aload 5, 2) := by decide +kernel
theorem dX4_worthFromCellar_27 : decode cX4_worthFromCellar 27 = .ok (.ifnonnull 5, 3) := by decide +kernel
theorem dX4_worthFromCellar_30 : decode cX4_worthFromCellar 30 = .ok (.iconst (-1), 1) := by decide +kernel
theorem dX4_worthFromCellar_31 : decode cX4_worthFromCellar 31 = .ok (.ireturn, 1) := by decide +kernel
theorem dX4_worthFromCellar_32 : decode cX4_worthFromCellar 32 = .ok (.aload_n 0, 1) := by decide +kernel
theorem dX4_worthFromCellar_33 : decode cX4_worthFromCellar 33 = .ok (.getfield 16, 3) := by decide +kernel
theorem dX4_worthFromCellar_36 : decode cX4_worthFromCellar 36 = .ok (.aload_n 0, 1) := by decide +kernel
theorem dX4_worthFromCellar_37 : decode cX4_worthFromCellar 37 = .ok (.getfield 10, 3) := by decide +kernel
theorem dX4_worthFromCellar_40 : decode cX4_worthFromCellar 40 = .ok (.invokevirtual 179, 3) := by decide +kernel
theorem dX4_worthFromCellar_43 : decode cX4_worthFromCellar 43 = .ok (.iload_n 2, 1) := by decide +kernel
theorem dX4_worthFromCellar_44 : decode cX4_worthFromCellar 44 = .ok (.aload 4, 2) := by decide +kernel
theorem dX4_worthFromCellar_46 : decode cX4_worthFromCellar 46 = .ok (.getfield 89, 3) := by decide +kernel
theorem dX4_worthFromCellar_49 : decode cX4_worthFromCellar 49 = .ok (.if_icmp .eq 29, 3) := by decide +kernel
theorem dX4_worthFromCellar_52 : decode cX4_worthFromCellar 52 = .ok (.aload 5, 2) := by decide +kernel
theorem dX4_worthFromCellar_54 : decode cX4_worthFromCellar 54 = .ok (.invokevirtual 212, 3) := by decide +kernel
theorem dX4_worthFromCellar_57 : decode cX4_worthFromCellar 57 = .ok (.istore 6, 2) := by decide +kernel
theorem dX4_worthFromCellar_59 : decode cX4_worthFromCellar 59 = .ok (.iload 6, 2) := by decide +kernel
theorem dX4_worthFromCellar_61 : decode cX4_worthFromCellar 61 = .ok (.iconst (-1), 1) := by decide +kernel
theorem dX4_worthFromCellar_62 : decode cX4_worthFromCellar 62 = .ok (.if_icmp .ne 5, 3) := by decide +kernel
theorem dX4_worthFromCellar_65 : decode cX4_worthFromCellar 65 = .ok (.iconst (-1), 1) := by decide +kernel
theorem dX4_worthFromCellar_66 : decode cX4_worthFromCellar 66 = .ok (.ireturn, 1) := by decide +kernel
theorem dX4_worthFromCellar_67 : decode cX4_worthFromCellar 67 = .ok (.aload_n 0, 1) := by decide +kernel
theorem dX4_worthFromCellar_68 : decode cX4_worthFromCellar 68 = .ok (.getfield 16, 3) := by decide +kernel
theorem dX4_worthFromCellar_71 : decode cX4_worthFromCellar 71 = .ok (.iload_n 1, 1) := by decide +kernel
theorem dX4_worthFromCellar_72 : decode cX4_worthFromCellar 72 = .ok (.iload_n 2, 1) := by decide +kernel
theorem dX4_worthFromCellar_73 : decode cX4_worthFromCellar 73 = .ok (.iload 6, 2) := by decide +kernel
theorem dX4_worthFromCellar_75 : decode cX4_worthFromCellar 75 = .ok (.invokevirtual 97, 3) := by decide +kernel
theorem dX4_worthFromCellar_78 : decode cX4_worthFromCellar 78 = .ok (.aload_n 0, 1) := by decide +kernel
theorem dX4_worthFromCellar_79 : decode cX4_worthFromCellar 79 = .ok (.getfield 16, 3) := by decide +kernel
theorem dX4_worthFromCellar_82 : decode cX4_worthFromCellar 82 = .ok (.iload_n 3, 1) := by decide +kernel
theorem dX4_worthFromCellar_83 : decode cX4_worthFromCellar 83 = .ok (.invokevirtual 175, 3) := by decide +kernel
theorem dX4_worthFromCellar_86 : decode cX4_worthFromCellar 86 = .ok (.aload_n 0, 1) := by decide +kernel
theorem dX4_worthFromCellar_87 : decode cX4_worthFromCellar 87 = .ok (.getfield 16, 3) := by decide +kernel
theorem dX4_worthFromCellar_90 : decode cX4_worthFromCellar 90 = .ok (.iload_n 1, 1) := by decide +kernel
theorem dX4_worthFromCellar_91 : decode cX4_worthFromCellar 91 = .ok (.invokevirtual 183, 3) := by decide +kernel
theorem dX4_worthFromCellar_94 : decode cX4_worthFromCellar 94 = .ok (.ireturn, 1) := by decide +kernel
theorem dX4_isWithin_0 : decode cX4_isWithin 0 = .ok (.iload_n 0, 1) := by decide +kernel
theorem dX4_isWithin_1 : decode cX4_isWithin 1 = .ok (.iload_n 1, 1) := by decide +kernel
theorem dX4_isWithin_2 : decode cX4_isWithin 2 = .ok (.if_icmp .lt 12, 3) := by decide +kernel
theorem dX4_isWithin_5 : decode cX4_isWithin 5 = .ok (.iload_n 0, 1) := by decide +kernel
theorem dX4_isWithin_6 : decode cX4_isWithin 6 = .ok (.iload_n 2, 1) := by decide +kernel
theorem dX4_isWithin_7 : decode cX4_isWithin 7 = .ok (.if_icmp .gt 7, 3) := by decide +kernel
theorem dX4_isWithin_10 : decode cX4_isWithin 10 = .ok (.iconst 1, 1) := by decide +kernel
theorem dX4_isWithin_11 : decode cX4_isWithin 11 = .ok (.goto 4, 3) := by decide +kernel
theorem dX4_isWithin_14 : decode cX4_isWithin 14 = .ok (.iconst 0, 1) := by decide +kernel
theorem dX4_isWithin_15 : decode cX4_isWithin 15 = .ok (.ireturn, 1) := by decide +kernel
theorem dX4_isPlace_0 : decode cX4_isPlace 0 = .ok (.iload_n 0, 1) := by decide +kernel
theorem dX4_isPlace_1 : decode cX4_isPlace 1 = .ok (.iconst 0, 1) := by decide +kernel
theorem dX4_isPlace_2 : decode cX4_isPlace 2 = .ok (.bipush 9, 2) := by decide +kernel
theorem dX4_isPlace_4 : decode cX4_isPlace 4 = .ok (.invokestatic 19, 3) := by decide +kernel
theorem dX4_isPlace_7 : decode cX4_isPlace 7 = .ok (.ireturn, 1) := by decide +kernel
theorem dX5_init_0 : decode cX5_init 0 = .ok (.aload_n 0, 1) := by decide +kernel
theorem dX5_init_1 : decode cX5_init 1 = .ok (.aload_n 1, 1) := by decide +kernel
theorem dX5_init_2 : decode cX5_init 2 = .ok (.putfield 3, 3) := by decide +kernel
theorem dX5_init_5 : decode cX5_init 5 = .ok (.aload_n 0, 1) := by decide +kernel
theorem dX5_init_6 : decode cX5_init 6 = .ok (.invokespecial 9, 3) := by decide +kernel
theorem dX5_init_9 : decode cX5_init 9 = .ok (.aload_n 0, 1) := by decide +kernel
theorem dX5_init_10 : decode cX5_init 10 = .ok (.bipush 40, 2) := by decide +kernel
theorem dX5_init_12 : decode cX5_init 12 = .ok (.newarray .int, 2) := by decide +kernel
theorem dX5_init_14 : decode cX5_init 14 = .ok (.putfield 15, 3) := by decide +kernel
theorem dX5_init_17 : decode cX5_init 17 = .ok (.aload_n 0, 1) := by decide +kernel
theorem dX5_init_18 : decode cX5_init 18 = .ok (.bipush 24, 2) := by decide +kernel
theorem dX5_init_20 : decode cX5_init 20 = .ok (.newarray .int, 2) := by decide +kernel
theorem dX5_init_22 : decode cX5_init 22 = .ok (.putfield 19, 3) := by decide +kernel
theorem dX5_init_25 : decode cX5_init 25 = .ok (.aload_n 0, 1) := by decide +kernel
theorem dX5_init_26 : decode cX5_init 26 = .ok (.bipush 24, 2) := by decide +kernel
theorem dX5_init_28 : decode cX5_init 28 = .ok (.newarray .int, 2) := by decide +kernel
theorem dX5_init_30 : decode cX5_init 30 = .ok (.putfield 22, 3) := by decide +kernel
theorem dX5_init_33 : decode cX5_init 33 = .ok (.aload_n 0, 1) := by decide +kernel
theorem dX5_init_34 : decode cX5_init 34 = .ok (.bipush 24, 2) := by decide +kernel
theorem dX5_init_36 : decode cX5_init 36 = .ok (.newarray .int, 2) := by decide +kernel
theorem dX5_init_38 : decode cX5_init 38 = .ok (.putfield 25, 3) := by decide +kernel
theorem dX5_init_41 : decode cX5_init 41 = .ok (.aload_n 0, 1) := by decide +kernel
theorem dX5_init_42 : decode cX5_init 42 = .ok (.bipush 24, 2) := by decide +kernel
theorem dX5_init_44 : decode cX5_init 44 = .ok (.newarray .int, 2) := by decide +kernel
theorem dX5_init_46 : decode cX5_init 46 = .ok (.putfield 28, 3) := by decide +kernel
theorem dX5_init_49 : decode cX5_init 49 = .ok (.aload_n 0, 1) := by decide +kernel
theorem dX5_init_50 : decode cX5_init 50 = .ok (.bipush 24, 2) := by decide +kernel
theorem dX5_init_52 : decode cX5_init 52 = .ok (.newarray .int, 2) := by decide +kernel
theorem dX5_init_54 : decode cX5_init 54 = .ok (.putfield 31, 3) := by decide +kernel
theorem dX5_init_57 : decode cX5_init 57 = .ok (.aload_n 0, 1) := by decide +kernel
theorem dX5_init_58 : decode cX5_init 58 = .ok (.bipush 24, 2) := by decide +kernel
theorem dX5_init_60 : decode cX5_init 60 = .ok (.newarray .int, 2) := by decide +kernel
theorem dX5_init_62 : decode cX5_init 62 = .ok (.putfield 34, 3) := by decide +kernel
theorem dX5_init_65 : decode cX5_init 65 = .ok (.aload_n 0, 1) := by decide +kernel
theorem dX5_init_66 : decode cX5_init 66 = .ok (.bipush 24, 2) := by decide +kernel
theorem dX5_init_68 : decode cX5_init 68 = .ok (.newarray .int, 2) := by decide +kernel
theorem dX5_init_70 : decode cX5_init 70 = .ok (.putfield 37, 3) := by decide +kernel
theorem dX5_init_73 : decode cX5_init 73 = .ok (.aload_n 0, 1) := by decide +kernel
theorem dX5_init_74 : decode cX5_init 74 = .ok (.bipush 24, 2) := by decide +kernel
theorem dX5_init_76 : decode cX5_init 76 = .ok (.newarray .int, 2) := by decide +kernel
theorem dX5_init_78 : decode cX5_init 78 = .ok (.putfield 40, 3) := by decide +kernel
theorem dX5_init_81 : decode cX5_init 81 = .ok (.aload_n 0, 1) := by decide +kernel
theorem dX5_init_82 : decode cX5_init 82 = .ok (.bipush 24, 2) := by decide +kernel
theorem dX5_init_84 : decode cX5_init 84 = .ok (.newarray .int, 2) := by decide +kernel
theorem dX5_init_86 : decode cX5_init 86 = .ok (.putfield 43, 3) := by decide +kernel
theorem dX5_init_89 : decode cX5_init 89 = .ok (.aload_n 0, 1) := by decide +kernel
theorem dX5_init_90 : decode cX5_init 90 = .ok (.iconst 4, 1) := by decide +kernel
theorem dX5_init_91 : decode cX5_init 91 = .ok (.newarray .int, 2) := by decide +kernel
theorem dX5_init_93 : decode cX5_init 93 = .ok (.putfield 46, 3) := by decide +kernel
theorem dX5_init_96 : decode cX5_init 96 = .ok (.aload_n 0, 1) := by decide +kernel
theorem dX5_init_97 : decode cX5_init 97 = .ok (.iconst 4, 1) := by decide +kernel
theorem dX5_init_98 : decode cX5_init 98 = .ok (.newarray .int, 2) := by decide +kernel
theorem dX5_init_100 : decode cX5_init 100 = .ok (.putfield 49, 3) := by decide +kernel
theorem dX5_init_103 : decode cX5_init 103 = .ok (.aload_n 0, 1) := by decide +kernel
theorem dX5_init_104 : decode cX5_init 104 = .ok (.bipush 24, 2) := by decide +kernel
theorem dX5_init_106 : decode cX5_init 106 = .ok (.newarray .int, 2) := by decide +kernel
theorem dX5_init_108 : decode cX5_init 108 = .ok (.putfield 52, 3) := by decide +kernel
theorem dX5_init_111 : decode cX5_init 111 = .ok (.return_, 1) := by decide +kernel
theorem dX5_copy_0 : decode cX5_copy 0 = .ok (.aload_n 1, 1) := by decide +kernel
theorem dX5_copy_1 : decode cX5_copy 1 = .ok (.iconst 0, 1) := by decide +kernel
theorem dX5_copy_2 : decode cX5_copy 2 = .ok (.aload_n 2, 1) := by decide +kernel
theorem dX5_copy_3 : decode cX5_copy 3 = .ok (.iconst 0, 1) := by decide +kernel
theorem dX5_copy_4 : decode cX5_copy 4 = .ok (.aload_n 1, 1) := by decide +kernel
theorem dX5_copy_5 : decode cX5_copy 5 = .ok (.arraylength, 1) := by decide +kernel
theorem dX5_copy_6 : decode cX5_copy 6 = .ok (.invokestatic 55, 3) := by decide +kernel
theorem dX5_copy_9 : decode cX5_copy 9 = .ok (.return_, 1) := by decide +kernel
theorem dX5_become_0 : decode cX5_become 0 = .ok (.aload_n 0, 1) := by decide +kernel
theorem dX5_become_1 : decode cX5_become 1 = .ok (.aload_n 1, 1) := by decide +kernel
theorem dX5_become_2 : decode cX5_become 2 = .ok (.getfield 61, 3) := by decide +kernel
theorem dX5_become_5 : decode cX5_become 5 = .ok (.putfield 61, 3) := by decide +kernel
theorem dX5_become_8 : decode cX5_become 8 = .ok (.aload_n 0, 1) := by decide +kernel
theorem dX5_become_9 : decode cX5_become 9 = .ok (.aload_n 1, 1) := by decide +kernel
theorem dX5_become_10 : decode cX5_become 10 = .ok (.getfield 15, 3) := by decide +kernel
theorem dX5_become_13 : decode cX5_become 13 = .ok (.aload_n 0, 1) := by decide +kernel
theorem dX5_become_14 : decode cX5_become 14 = .ok (.getfield 15, 3) := by decide +kernel
theorem dX5_become_17 : decode cX5_become 17 = .ok (.invokevirtual 65, 3) := by decide +kernel
theorem dX5_become_20 : decode cX5_become 20 = .ok (.aload_n 0, 1) := by decide +kernel
theorem dX5_become_21 : decode cX5_become 21 = .ok (.aload_n 1, 1) := by decide +kernel
theorem dX5_become_22 : decode cX5_become 22 = .ok (.getfield 19, 3) := by decide +kernel
theorem dX5_become_25 : decode cX5_become 25 = .ok (.aload_n 0, 1) := by decide +kernel
theorem dX5_become_26 : decode cX5_become 26 = .ok (.getfield 19, 3) := by decide +kernel
theorem dX5_become_29 : decode cX5_become 29 = .ok (.invokevirtual 65, 3) := by decide +kernel
theorem dX5_become_32 : decode cX5_become 32 = .ok (.aload_n 0, 1) := by decide +kernel
theorem dX5_become_33 : decode cX5_become 33 = .ok (.aload_n 1, 1) := by decide +kernel
theorem dX5_become_34 : decode cX5_become 34 = .ok (.getfield 22, 3) := by decide +kernel
theorem dX5_become_37 : decode cX5_become 37 = .ok (.aload_n 0, 1) := by decide +kernel
theorem dX5_become_38 : decode cX5_become 38 = .ok (.getfield 22, 3) := by decide +kernel
theorem dX5_become_41 : decode cX5_become 41 = .ok (.invokevirtual 65, 3) := by decide +kernel
theorem dX5_become_44 : decode cX5_become 44 = .ok (.aload_n 0, 1) := by decide +kernel
theorem dX5_become_45 : decode cX5_become 45 = .ok (.aload_n 1, 1) := by decide +kernel
theorem dX5_become_46 : decode cX5_become 46 = .ok (.getfield 25, 3) := by decide +kernel
theorem dX5_become_49 : decode cX5_become 49 = .ok (.aload_n 0, 1) := by decide +kernel
theorem dX5_become_50 : decode cX5_become 50 = .ok (.getfield 25, 3) := by decide +kernel
theorem dX5_become_53 : decode cX5_become 53 = .ok (.invokevirtual 65, 3) := by decide +kernel
theorem dX5_become_56 : decode cX5_become 56 = .ok (.aload_n 0, 1) := by decide +kernel
theorem dX5_become_57 : decode cX5_become 57 = .ok (.aload_n 1, 1) := by decide +kernel
theorem dX5_become_58 : decode cX5_become 58 = .ok (.getfield 28, 3) := by decide +kernel
theorem dX5_become_61 : decode cX5_become 61 = .ok (.aload_n 0, 1) := by decide +kernel
theorem dX5_become_62 : decode cX5_become 62 = .ok (.getfield 28, 3) := by decide +kernel
theorem dX5_become_65 : decode cX5_become 65 = .ok (.invokevirtual 65, 3) := by decide +kernel
theorem dX5_become_68 : decode cX5_become 68 = .ok (.aload_n 0, 1) := by decide +kernel
theorem dX5_become_69 : decode cX5_become 69 = .ok (.aload_n 1, 1) := by decide +kernel
theorem dX5_become_70 : decode cX5_become 70 = .ok (.getfield 31, 3) := by decide +kernel
theorem dX5_become_73 : decode cX5_become 73 = .ok (.aload_n 0, 1) := by decide +kernel
theorem dX5_become_74 : decode cX5_become 74 = .ok (.getfield 31, 3) := by decide +kernel
theorem dX5_become_77 : decode cX5_become 77 = .ok (.invokevirtual 65, 3) := by decide +kernel
theorem dX5_become_80 : decode cX5_become 80 = .ok (.aload_n 0, 1) := by decide +kernel
theorem dX5_become_81 : decode cX5_become 81 = .ok (.aload_n 1, 1) := by decide +kernel
theorem dX5_become_82 : decode cX5_become 82 = .ok (.getfield 34, 3) := by decide +kernel
theorem dX5_become_85 : decode cX5_become 85 = .ok (.aload_n 0, 1) := by decide +kernel
theorem dX5_become_86 : decode cX5_become 86 = .ok (.getfield 34, 3) := by decide +kernel
theorem dX5_become_89 : decode cX5_become 89 = .ok (.invokevirtual 65, 3) := by decide +kernel
theorem dX5_become_92 : decode cX5_become 92 = .ok (.aload_n 0, 1) := by decide +kernel
theorem dX5_become_93 : decode cX5_become 93 = .ok (.aload_n 1, 1) := by decide +kernel
theorem dX5_become_94 : decode cX5_become 94 = .ok (.getfield 37, 3) := by decide +kernel
theorem dX5_become_97 : decode cX5_become 97 = .ok (.aload_n 0, 1) := by decide +kernel
theorem dX5_become_98 : decode cX5_become 98 = .ok (.getfield 37, 3) := by decide +kernel
theorem dX5_become_101 : decode cX5_become 101 = .ok (.invokevirtual 65, 3) := by decide +kernel
theorem dX5_become_104 : decode cX5_become 104 = .ok (.aload_n 0, 1) := by decide +kernel
theorem dX5_become_105 : decode cX5_become 105 = .ok (.aload_n 1, 1) := by decide +kernel
theorem dX5_become_106 : decode cX5_become 106 = .ok (.getfield 40, 3) := by decide +kernel
theorem dX5_become_109 : decode cX5_become 109 = .ok (.aload_n 0, 1) := by decide +kernel
theorem dX5_become_110 : decode cX5_become 110 = .ok (.getfield 40, 3) := by decide +kernel
theorem dX5_become_113 : decode cX5_become 113 = .ok (.invokevirtual 65, 3) := by decide +kernel
theorem dX5_become_116 : decode cX5_become 116 = .ok (.aload_n 0, 1) := by decide +kernel
theorem dX5_become_117 : decode cX5_become 117 = .ok (.aload_n 1, 1) := by decide +kernel
theorem dX5_become_118 : decode cX5_become 118 = .ok (.getfield 43, 3) := by decide +kernel
theorem dX5_become_121 : decode cX5_become 121 = .ok (.aload_n 0, 1) := by decide +kernel
theorem dX5_become_122 : decode cX5_become 122 = .ok (.getfield 43, 3) := by decide +kernel
theorem dX5_become_125 : decode cX5_become 125 = .ok (.invokevirtual 65, 3) := by decide +kernel
theorem dX5_become_128 : decode cX5_become 128 = .ok (.aload_n 0, 1) := by decide +kernel
theorem dX5_become_129 : decode cX5_become 129 = .ok (.aload_n 1, 1) := by decide +kernel
theorem dX5_become_130 : decode cX5_become 130 = .ok (.getfield 46, 3) := by decide +kernel
theorem dX5_become_133 : decode cX5_become 133 = .ok (.aload_n 0, 1) := by decide +kernel
theorem dX5_become_134 : decode cX5_become 134 = .ok (.getfield 46, 3) := by decide +kernel
theorem dX5_become_137 : decode cX5_become 137 = .ok (.invokevirtual 65, 3) := by decide +kernel
theorem dX5_become_140 : decode cX5_become 140 = .ok (.aload_n 0, 1) := by decide +kernel
theorem dX5_become_141 : decode cX5_become 141 = .ok (.aload_n 1, 1) := by decide +kernel
theorem dX5_become_142 : decode cX5_become 142 = .ok (.getfield 49, 3) := by decide +kernel
theorem dX5_become_145 : decode cX5_become 145 = .ok (.aload_n 0, 1) := by decide +kernel
theorem dX5_become_146 : decode cX5_become 146 = .ok (.getfield 49, 3) := by decide +kernel
theorem dX5_become_149 : decode cX5_become 149 = .ok (.invokevirtual 65, 3) := by decide +kernel
theorem dX5_become_152 : decode cX5_become 152 = .ok (.return_, 1) := by decide +kernel
theorem dX5_worth_0 : decode cX5_worth 0 = .ok (.aload_n 0, 1) := by decide +kernel
theorem dX5_worth_1 : decode cX5_worth 1 = .ok (.getfield 25, 3) := by decide +kernel
theorem dX5_worth_4 : decode cX5_worth 4 = .ok (.iload_n 1, 1) := by decide +kernel
theorem dX5_worth_5 : decode cX5_worth 5 = .ok (.iaload, 1) := by decide +kernel
theorem dX5_worth_6 : decode cX5_worth 6 = .ok (.aload_n 0, 1) := by decide +kernel
theorem dX5_worth_7 : decode cX5_worth 7 = .ok (.getfield 31, 3) := by decide +kernel
theorem dX5_worth_10 : decode cX5_worth 10 = .ok (.iload_n 1, 1) := by decide +kernel
theorem dX5_worth_11 : decode cX5_worth 11 = .ok (.iaload, 1) := by decide +kernel
theorem dX5_worth_12 : decode cX5_worth 12 = .ok (.bipush 40, 2) := by decide +kernel
theorem dX5_worth_14 : decode cX5_worth 14 = .ok (.isub, 1) := by decide +kernel
theorem dX5_worth_15 : decode cX5_worth 15 = .ok (.invokestatic 69, 3) := by decide +kernel
theorem dX5_worth_18 : decode cX5_worth 18 = .ok (.isub, 1) := by decide +kernel
theorem dX5_worth_19 : decode cX5_worth 19 = .ok (.istore_n 2, 1) := by decide +kernel
theorem dX5_worth_20 : decode cX5_worth 20 = .ok (.aload_n 0, 1) := by decide +kernel
theorem dX5_worth_21 : decode cX5_worth 21 = .ok (.getfield 37, 3) := by decide +kernel
theorem dX5_worth_24 : decode cX5_worth 24 = .ok (.iload_n 1, 1) := by decide +kernel
theorem dX5_worth_25 : decode cX5_worth 25 = .ok (.iaload, 1) := by decide +kernel
theorem dX5_worth_26 : decode cX5_worth 26 = .ok (.iconst 2, 1) := by decide +kernel
theorem dX5_worth_27 : decode cX5_worth 27 = .ok (.if_icmp .ne 21, 3) := by decide +kernel
theorem dX5_worth_30 : decode cX5_worth 30 = .ok (.aload_n 0, 1) := by decide +kernel
theorem dX5_worth_31 : decode cX5_worth 31 = .ok (.getfield 40, 3) := by decide +kernel
theorem dX5_worth_34 : decode cX5_worth 34 = .ok (.iload_n 1, 1) := by decide +kernel
theorem dX5_worth_35 : decode cX5_worth 35 = .ok (.iaload, 1) := by decide +kernel
theorem dX5_worth_36 : decode cX5_worth 36 = .ok (.iconst 3, 1) := by decide +kernel
theorem dX5_worth_37 : decode cX5_worth 37 = .ok (.bipush 6, 2) := by decide +kernel
theorem dX5_worth_39 : decode cX5_worth 39 = .ok (.invokestatic 75, 3) := by decide +kernel
theorem dX5_worth_42 : decode cX5_worth 42 = .ok (.ifCond .eq 6, 3) := by decide +kernel
theorem dX5_worth_45 : decode cX5_worth 45 = .ok (.iinc 2 30, 3) := by decide +kernel
theorem dX5_worth_48 : decode cX5_worth 48 = .ok (.aload_n 0, 1) := by decide +kernel
theorem dX5_worth_49 : decode cX5_worth 49 = .ok (.getfield 37, 3) := by decide +kernel
theorem dX5_worth_52 : decode cX5_worth 52 = .ok (.iload_n 1, 1) := by decide +kernel
theorem dX5_worth_53 : decode cX5_worth 53 = .ok (.iaload, 1) := by decide +kernel
theorem dX5_worth_54 : decode cX5_worth 54 = .ok (.iconst 1, 1) := by decide +kernel
theorem dX5_worth_55 : decode cX5_worth 55 = .ok (.if_icmp .ne 6, 3) := by decide +kernel
theorem dX5_worth_58 : decode cX5_worth 58 = .ok (.iinc 2 10, 3) := by decide +kernel
theorem dX5_worth_61 : decode cX5_worth 61 = .ok (.aload_n 0, 1) := by decide +kernel
theorem dX5_worth_62 : decode cX5_worth 62 = .ok (.getfield 37, 3) := by decide +kernel
theorem dX5_worth_65 : decode cX5_worth 65 = .ok (.iload_n 1, 1) := by decide +kernel
theorem dX5_worth_66 : decode cX5_worth 66 = .ok (.iaload, 1) := by decide +kernel
theorem dX5_worth_67 : decode cX5_worth 67 = .ok (.iconst 3, 1) := by decide +kernel
theorem dX5_worth_68 : decode cX5_worth 68 = .ok (.if_icmp .ne 6, 3) := by decide +kernel
theorem dX5_worth_71 : decode cX5_worth 71 = .ok (.iinc 2 (-40), 3) := by decide +kernel
theorem dX5_worth_74 : decode cX5_worth 74 = .ok (.iconst 0, 1) := by decide +kernel
theorem dX5_worth_75 : decode cX5_worth 75 = .ok (.iload_n 2, 1) := by decide +kernel
theorem dX5_worth_76 : decode cX5_worth 76 = .ok (.invokestatic 79, 3) := by decide +kernel
theorem dX5_worth_79 : decode cX5_worth 79 = .ok (.ireturn, 1) := by decide +kernel
theorem dX5_canCatch_0 : decode cX5_canCatch 0 = .ok (.aload_n 0, 1) := by decide +kernel
theorem dX5_canCatch_1 : decode cX5_canCatch 1 = .ok (.getfield 37, 3) := by decide +kernel
theorem dX5_canCatch_4 : decode cX5_canCatch 4 = .ok (.iload_n 1, 1) := by decide +kernel
theorem dX5_canCatch_5 : decode cX5_canCatch 5 = .ok (.iaload, 1) := by decide +kernel
theorem dX5_canCatch_6 : decode cX5_canCatch 6 = .ok (.ifCond .ne 18, 3) := by decide +kernel
theorem dX5_canCatch_9 : decode cX5_canCatch 9 = .ok (.aload_n 0, 1) := by decide +kernel
theorem dX5_canCatch_10 : decode cX5_canCatch 10 = .ok (.getfield 28, 3) := by decide +kernel
theorem dX5_canCatch_13 : decode cX5_canCatch 13 = .ok (.iload_n 1, 1) := by decide +kernel
theorem dX5_canCatch_14 : decode cX5_canCatch 14 = .ok (.iaload, 1) := by decide +kernel
theorem dX5_canCatch_15 : decode cX5_canCatch 15 = .ok (.bipush 8, 2) := by decide +kernel
theorem dX5_canCatch_17 : decode cX5_canCatch 17 = .ok (.if_icmp .ge 7, 3) := by decide +kernel
theorem dX5_canCatch_20 : decode cX5_canCatch 20 = .ok (.iconst 1, 1) := by decide +kernel
theorem dX5_canCatch_21 : decode cX5_canCatch 21 = .ok (.goto 4, 3) := by decide +kernel
theorem dX5_canCatch_24 : decode cX5_canCatch 24 = .ok (.iconst 0, 1) := by decide +kernel
theorem dX5_canCatch_25 : decode cX5_canCatch 25 = .ok (.ireturn, 1) := by decide +kernel
theorem dX5_have_0 : decode cX5_have 0 = .ok (.aload_n 0, 1) := by decide +kernel
theorem dX5_have_1 : decode cX5_have 1 = .ok (.getfield 37, 3) := by decide +kernel
theorem dX5_have_4 : decode cX5_have 4 = .ok (.iload_n 1, 1) := by decide +kernel
theorem dX5_have_5 : decode cX5_have 5 = .ok (.iload_n 2, 1) := by decide +kernel
theorem dX5_have_6 : decode cX5_have 6 = .ok (.iastore, 1) := by decide +kernel
theorem dX5_have_7 : decode cX5_have 7 = .ok (.aload_n 0, 1) := by decide +kernel
theorem dX5_have_8 : decode cX5_have 8 = .ok (.getfield 40, 3) := by decide +kernel
theorem dX5_have_11 : decode cX5_have 11 = .ok (.iload_n 1, 1) := by decide +kernel
theorem dX5_have_12 : decode cX5_have 12 = .ok (.iload_n 3, 1) := by decide +kernel
theorem dX5_have_13 : decode cX5_have 13 = .ok (.iastore, 1) := by decide +kernel
theorem dX5_have_14 : decode cX5_have 14 = .ok (.aload_n 0, 1) := by decide +kernel
theorem dX5_have_15 : decode cX5_have 15 = .ok (.getfield 43, 3) := by decide +kernel
theorem dX5_have_18 : decode cX5_have 18 = .ok (.iload_n 1, 1) := by decide +kernel
theorem dX5_have_19 : decode cX5_have 19 = .ok (.iload 4, 2) := by decide +kernel
theorem dX5_have_21 : decode cX5_have 21 = .ok (.iastore, 1) := by decide +kernel
theorem dX5_have_22 : decode cX5_have 22 = .ok (.return_, 1) := by decide +kernel
theorem dX5_leave_0 : decode cX5_leave 0 = .ok (.aload_n 0, 1) := by decide +kernel
theorem dX5_leave_1 : decode cX5_leave 1 = .ok (.getfield 15, 3) := by decide +kernel
theorem dX5_leave_4 : decode cX5_leave 4 = .ok (.aload_n 0, 1) := by decide +kernel
theorem dX5_leave_5 : decode cX5_leave 5 = .ok (.getfield 22, 3) := by decide +kernel
theorem dX5_leave_8 : decode cX5_leave 8 = .ok (.iload_n 1, 1) := by decide +kernel
theorem dX5_leave_9 : decode cX5_leave 9 = .ok (.iaload, 1) := by decide +kernel
theorem dX5_leave_10 : decode cX5_leave 10 = .ok (.iconst (-1), 1) := by decide +kernel
theorem dX5_leave_11 : decode cX5_leave 11 = .ok (.iastore, 1) := by decide +kernel
theorem dX5_leave_12 : decode cX5_leave 12 = .ok (.aload_n 0, 1) := by decide +kernel
theorem dX5_leave_13 : decode cX5_leave 13 = .ok (.getfield 19, 3) := by decide +kernel
theorem dX5_leave_16 : decode cX5_leave 16 = .ok (.iload_n 1, 1) := by decide +kernel
theorem dX5_leave_17 : decode cX5_leave 17 = .ok (.iload_n 2, 1) := by decide +kernel
theorem dX5_leave_18 : decode cX5_leave 18 = .ok (.iastore, 1) := by decide +kernel
theorem dX5_leave_19 : decode cX5_leave 19 = .ok (.return_, 1) := by decide +kernel
theorem dX5_work_0 : decode cX5_work 0 = .ok (.iload_n 3, 1) := by decide +kernel
theorem dX5_work_1 : decode cX5_work 1 = .ok (.iconst 1, 1) := by decide +kernel
theorem dX5_work_2 : decode cX5_work 2 = .ok (.if_icmp .ne 13, 3) := by decide +kernel
theorem dX5_work_5 : decode cX5_work 5 = .ok (.aload_n 0, 1) := by decide +kernel
theorem dX5_work_6 : decode cX5_work 6 = .ok (.getfield 34, 3) := by decide +kernel
theorem dX5_work_9 : decode cX5_work 9 = .ok (.iload_n 2, 1) := by decide +kernel
theorem dX5_work_10 : decode cX5_work 10 = .ok (.iconst 0, 1) := by decide +kernel
theorem dX5_work_11 : decode cX5_work 11 = .ok (.iastore, 1) := by decide +kernel
theorem dX5_work_12 : decode cX5_work 12 = .ok (.goto 61, 3) := by decide +kernel
theorem dX5_work_15 : decode cX5_work 15 = .ok (.iload_n 3, 1) := by decide +kernel
theorem dX5_work_16 : decode cX5_work 16 = .ok (.iconst 2, 1) := by decide +kernel
theorem dX5_work_17 : decode cX5_work 17 = .ok (.if_icmp .ne 25, 3) := by decide +kernel
theorem dX5_work_20 : decode cX5_work 20 = .ok (.aload_n 0, 1) := by decide +kernel
theorem dX5_work_21 : decode cX5_work 21 = .ok (.getfield 28, 3) := by decide +kernel
theorem dX5_work_24 : decode cX5_work 24 = .ok (.iload_n 2, 1) := by decide +kernel
theorem dX5_work_25 : decode cX5_work 25 = .ok (.bipush 20, 2) := by decide +kernel
theorem dX5_work_27 : decode cX5_work 27 = .ok (.aload_n 0, 1) := by decide +kernel
theorem dX5_work_28 : decode cX5_work 28 = .ok (.getfield 28, 3) := by decide +kernel
theorem dX5_work_31 : decode cX5_work 31 = .ok (.iload_n 2, 1) := by decide +kernel
theorem dX5_work_32 : decode cX5_work 32 = .ok (.iaload, 1) := by decide +kernel
theorem dX5_work_33 : decode cX5_work 33 = .ok (.iconst 2, 1) := by decide +kernel
theorem dX5_work_34 : decode cX5_work 34 = .ok (.iadd, 1) := by decide +kernel
theorem dX5_work_35 : decode cX5_work 35 = .ok (.invokestatic 83, 3) := by decide +kernel
theorem dX5_work_38 : decode cX5_work 38 = .ok (.iastore, 1) := by decide +kernel
theorem dX5_work_39 : decode cX5_work 39 = .ok (.goto 34, 3) := by decide +kernel
theorem dX5_work_42 : decode cX5_work 42 = .ok (.aload_n 0, 1) := by decide +kernel
theorem dX5_work_43 : decode cX5_work 43 = .ok (.getfield 40, 3) := by decide +kernel
theorem dX5_work_46 : decode cX5_work 46 = .ok (.iload_n 2, 1) := by decide +kernel
theorem dX5_work_47 : decode cX5_work 47 = .ok (.iaload, 1) := by decide +kernel
theorem dX5_work_48 : decode cX5_work 48 = .ok (.iconst 3, 1) := by decide +kernel
theorem dX5_work_49 : decode cX5_work 49 = .ok (.if_icmp .le 16, 3) := by decide +kernel
theorem dX5_work_52 : decode cX5_work 52 = .ok (.aload_n 0, 1) := by decide +kernel
theorem dX5_work_53 : decode cX5_work 53 = .ok (.getfield 40, 3) := by decide +kernel
theorem dX5_work_56 : decode cX5_work 56 = .ok (.iload_n 2, 1) := by decide +kernel
theorem dX5_work_57 : decode cX5_work 57 = .ok (.dup2, 1) := by decide +kernel
theorem dX5_work_58 : decode cX5_work 58 = .ok (.iaload, 1) := by decide +kernel
theorem dX5_work_59 : decode cX5_work 59 = .ok (.iconst 3, 1) := by decide +kernel
theorem dX5_work_60 : decode cX5_work 60 = .ok (.isub, 1) := by decide +kernel
theorem dX5_work_61 : decode cX5_work 61 = .ok (.iastore, 1) := by decide +kernel
theorem dX5_work_62 : decode cX5_work 62 = .ok (.goto 11, 3) := by decide +kernel
theorem dX5_work_65 : decode cX5_work 65 = .ok (.aload_n 0, 1) := by decide +kernel
theorem dX5_work_66 : decode cX5_work 66 = .ok (.iload_n 2, 1) := by decide +kernel
theorem dX5_work_67 : decode cX5_work 67 = .ok (.iconst 0, 1) := by decide +kernel
theorem dX5_work_68 : decode cX5_work 68 = .ok (.iconst 0, 1) := by decide +kernel
theorem dX5_work_69 : decode cX5_work 69 = .ok (.iconst (-1), 1) := by decide +kernel
theorem dX5_work_70 : decode cX5_work 70 = .ok (.invokevirtual 86, 3) := by decide +kernel
theorem dX5_work_73 : decode cX5_work 73 = .ok (.aload_n 0, 1) := by decide +kernel
theorem dX5_work_74 : decode cX5_work 74 = .ok (.getfield 40, 3) := by decide +kernel
theorem dX5_work_77 : decode cX5_work 77 = .ok (.iload_n 2, 1) := by decide +kernel
theorem dX5_work_78 : decode cX5_work 78 = .ok (.iaload, 1) := by decide +kernel
theorem dX5_work_79 : decode cX5_work 79 = .ok (.iconst 4, 1) := by decide +kernel
theorem dX5_work_80 : decode cX5_work 80 = .ok (.if_icmp .lt 18, 3) := by decide +kernel
theorem dX5_work_83 : decode cX5_work 83 = .ok (.aload_n 0, 1) := by decide +kernel
theorem dX5_work_84 : decode cX5_work 84 = .ok (.getfield 46, 3) := by decide +kernel
theorem dX5_work_87 : decode cX5_work 87 = .ok (.iload_n 1, 1) := by decide +kernel
theorem dX5_work_88 : decode cX5_work 88 = .ok (.aload_n 0, 1) := by decide +kernel
theorem dX5_work_89 : decode cX5_work 89 = .ok (.getfield 37, 3) := by decide +kernel
theorem dX5_work_92 : decode cX5_work 92 = .ok (.iload_n 2, 1) := by decide +kernel
theorem dX5_work_93 : decode cX5_work 93 = .ok (.iaload, 1) := by decide +kernel
theorem dX5_work_94 : decode cX5_work 94 = .ok (.iastore, 1) := by decide +kernel
theorem dX5_work_95 : decode cX5_work 95 = .ok (.goto 36, 3) := by decide +kernel
theorem dX5_work_98 : decode cX5_work 98 = .ok (.aload_n 0, 1) := by decide +kernel
theorem dX5_work_99 : decode cX5_work 99 = .ok (.getfield 46, 3) := by decide +kernel
theorem dX5_work_102 : decode cX5_work 102 = .ok (.iload_n 1, 1) := by decide +kernel
theorem dX5_work_103 : decode cX5_work 103 = .ok (.iaload, 1) := by decide +kernel
theorem dX5_work_104 : decode cX5_work 104 = .ok (.ifCond .le 27, 3) := by decide +kernel
theorem dX5_work_107 : decode cX5_work 107 = .ok (.aload_n 0, 1) := by decide +kernel
theorem dX5_work_108 : decode cX5_work 108 = .ok (.iload_n 2, 1) := by decide +kernel
theorem dX5_work_109 : decode cX5_work 109 = .ok (.invokevirtual 90, 3) := by decide +kernel
theorem dX5_work_112 : decode cX5_work 112 = .ok (.ifCond .eq 19, 3) := by decide +kernel
theorem dX5_work_115 : decode cX5_work 115 = .ok (.aload_n 0, 1) := by decide +kernel
theorem dX5_work_116 : decode cX5_work 116 = .ok (.iload_n 2, 1) := by decide +kernel
theorem dX5_work_117 : decode cX5_work 117 = .ok (.aload_n 0, 1) := by decide +kernel
theorem dX5_work_118 : decode cX5_work 118 = .ok (.getfield 46, 3) := by decide +kernel
theorem dX5_work_121 : decode cX5_work 121 = .ok (.iload_n 1, 1) := by decide +kernel
theorem dX5_work_122 : decode cX5_work 122 = .ok (.iaload, 1) := by decide +kernel
theorem dX5_work_123 : decode cX5_work 123 = .ok (.iconst 1, 1) := by decide +kernel
theorem dX5_work_124 : decode cX5_work 124 = .ok (.bipush 100, 2) := by decide +kernel
theorem dX5_work_126 : decode cX5_work 126 = .ok (.iload_n 1, 1) := by decide +kernel
theorem dX5_work_127 : decode cX5_work 127 = .ok (.iadd, 1) := by decide +kernel
theorem dX5_work_128 : decode cX5_work 128 = .ok (.invokevirtual 86, 3) := by decide +kernel
theorem dX5_work_131 : decode cX5_work 131 = .ok (.return_, 1) := by decide +kernel
theorem dX5_goAlong_0 : decode cX5_goAlong 0 = .ok (.aload_n 0, 1) := by decide +kernel
theorem dX5_goAlong_1 : decode cX5_goAlong 1 = .ok (.getfield 3, 3) := by decide +kernel
theorem dX5_goAlong_4 : decode cX5_goAlong 4 = .ok (.getfield 94, 3) := by decide +kernel
theorem dX5_goAlong_7 : decode cX5_goAlong 7 = .ok (.bipush 7, 2) := by decide +kernel
theorem dX5_goAlong_9 : decode cX5_goAlong 9 = .ok (.iload_n 1, 1) := by decide +kernel
theorem dX5_goAlong_10 : decode cX5_goAlong 10 = .ok (.imul, 1) := by decide +kernel
theorem dX5_goAlong_11 : decode cX5_goAlong 11 = .ok (.aload_n 0, 1) := by decide +kernel
theorem dX5_goAlong_12 : decode cX5_goAlong 12 = .ok (.getfield 61, 3) := by decide +kernel
theorem dX5_goAlong_15 : decode cX5_goAlong 15 = .ok (.bipush 7, 2) := by decide +kernel
theorem dX5_goAlong_17 : decode cX5_goAlong 17 = .ok (.irem, 1) := by decide +kernel
theorem dX5_goAlong_18 : decode cX5_goAlong 18 = .ok (.iadd, 1) := by decide +kernel
theorem dX5_goAlong_19 : decode cX5_goAlong 19 = .ok (.iaload, 1) := by decide +kernel
theorem dX5_goAlong_20 : decode cX5_goAlong 20 = .ok (.istore_n 2, 1) := by decide +kernel
theorem dX5_goAlong_21 : decode cX5_goAlong 21 = .ok (.iload_n 2, 1) := by decide +kernel
theorem dX5_goAlong_22 : decode cX5_goAlong 22 = .ok (.ifCond .ne 11, 3) := by decide +kernel
theorem dX5_goAlong_25 : decode cX5_goAlong 25 = .ok (.aload_n 0, 1) := by decide +kernel
theorem dX5_goAlong_26 : decode cX5_goAlong 26 = .ok (.getfield 46, 3) := by decide +kernel
theorem dX5_goAlong_29 : decode cX5_goAlong 29 = .ok (.iload_n 1, 1) := by decide +kernel
theorem dX5_goAlong_30 : decode cX5_goAlong 30 = .ok (.iconst 0, 1) := by decide +kernel
theorem dX5_goAlong_31 : decode cX5_goAlong 31 = .ok (.iastore, 1) := by decide +kernel
theorem dX5_goAlong_32 : decode cX5_goAlong 32 = .ok (.return_, 1) := by decide +kernel
theorem dX5_goAlong_33 : decode cX5_goAlong 33 = .ok (.aload_n 0, 1) := by decide +kernel
theorem dX5_goAlong_34 : decode cX5_goAlong 34 = .ok (.getfield 49, 3) := by decide +kernel
theorem dX5_goAlong_37 : decode cX5_goAlong 37 = .ok (.iload_n 1, 1) := by decide +kernel
theorem dX5_goAlong_38 : decode cX5_goAlong 38 = .ok (.iaload, 1) := by decide +kernel
theorem dX5_goAlong_39 : decode cX5_goAlong 39 = .ok (.iconst 1, 1) := by decide +kernel
theorem dX5_goAlong_40 : decode cX5_goAlong 40 = .ok (.iadd, 1) := by decide +kernel
theorem dX5_goAlong_41 : decode cX5_goAlong 41 = .ok (.istore_n 3, 1) := by decide +kernel
theorem dX5_goAlong_42 : decode cX5_goAlong 42 = .ok (.iconst 0, 1) := by decide +kernel
theorem dX5_goAlong_43 : decode cX5_goAlong 43 = .ok (.istore 4, 2) := by decide +kernel
theorem dX5_goAlong_45 : decode cX5_goAlong 45 = .ok (.iconst 0, 1) := by decide +kernel
theorem dX5_goAlong_46 : decode cX5_goAlong 46 = .ok (.istore 5, 2) := by decide +kernel
theorem dX5_goAlong_48 : decode cX5_goAlong 48 = .ok (.iload 5, 2) := by decide +kernel
theorem dX5_goAlong_50 : decode cX5_goAlong 50 = .ok (.bipush 10, 2) := by decide +kernel
theorem dX5_goAlong_52 : decode cX5_goAlong 52 = .ok (.if_icmp .ge 82, 3) := by decide +kernel
theorem dX5_goAlong_55 : decode cX5_goAlong 55 = .ok (.iload 4, 2) := by decide +kernel
theorem dX5_goAlong_57 : decode cX5_goAlong 57 = .ok (.aload_n 0, 1) := by decide +kernel
theorem dX5_goAlong_58 : decode cX5_goAlong 58 = .ok (.getfield 3, 3) := by decide +kernel
theorem dX5_goAlong_61 : decode cX5_goAlong 61 = .ok (.getfield 97, 3) := by decide +kernel
theorem dX5_goAlong_64 : decode cX5_goAlong 64 = .ok (.iload_n 1, 1) := by decide +kernel
theorem dX5_goAlong_65 : decode cX5_goAlong 65 = .ok (.iaload, 1) := by decide +kernel
theorem dX5_goAlong_66 : decode cX5_goAlong 66 = .ok (.if_icmp .ge 68, 3) := by decide +kernel
theorem dX5_goAlong_69 : decode cX5_goAlong 69 = .ok (.iload_n 3, 1) := by decide +kernel
theorem dX5_goAlong_70 : decode cX5_goAlong 70 = .ok (.iload 5, 2) := by decide +kernel
theorem dX5_goAlong_72 : decode cX5_goAlong 72 = .ok (.iadd, 1) := by decide +kernel
theorem dX5_goAlong_73 : decode cX5_goAlong 73 = .ok (.bipush 10, 2) := by decide +kernel
theorem dX5_goAlong_75 : decode cX5_goAlong 75 = .ok (.irem, 1) := by decide +kernel
theorem dX5_goAlong_76 : decode cX5_goAlong 76 = .ok (.istore 6, 2) := by decide +kernel
theorem dX5_goAlong_78 : decode cX5_goAlong 78 = .ok (.aload_n 0, 1) := by decide +kernel
theorem dX5_goAlong_79 : decode cX5_goAlong 79 = .ok (.getfield 15, 3) := by decide +kernel
theorem dX5_goAlong_82 : decode cX5_goAlong 82 = .ok (.bipush 10, 2) := by decide +kernel
theorem dX5_goAlong_84 : decode cX5_goAlong 84 = .ok (.aload_n 0, 1) := by decide +kernel
theorem dX5_goAlong_85 : decode cX5_goAlong 85 = .ok (.getfield 3, 3) := by decide +kernel
theorem dX5_goAlong_88 : decode cX5_goAlong 88 = .ok (.getfield 100, 3) := by decide +kernel
theorem dX5_goAlong_91 : decode cX5_goAlong 91 = .ok (.iload_n 1, 1) := by decide +kernel
theorem dX5_goAlong_92 : decode cX5_goAlong 92 = .ok (.iaload, 1) := by decide +kernel
theorem dX5_goAlong_93 : decode cX5_goAlong 93 = .ok (.imul, 1) := by decide +kernel
theorem dX5_goAlong_94 : decode cX5_goAlong 94 = .ok (.iload 6, 2) := by decide +kernel
theorem dX5_goAlong_96 : decode cX5_goAlong 96 = .ok (.iadd, 1) := by decide +kernel
theorem dX5_goAlong_97 : decode cX5_goAlong 97 = .ok (.iaload, 1) := by decide +kernel
theorem dX5_goAlong_98 : decode cX5_goAlong 98 = .ok (.istore 7, 2) := by decide +kernel
theorem dX5_goAlong_100 : decode cX5_goAlong 100 = .ok (.iload 7, 2) := by decide +kernel
theorem dX5_goAlong_102 : decode cX5_goAlong 102 = .ok (.iconst (-1), 1) := by decide +kernel
theorem dX5_goAlong_103 : decode cX5_goAlong 103 = .ok (.if_icmp .ne 6, 3) := by decide +kernel
theorem dX5_goAlong_106 : decode cX5_goAlong 106 = .ok (.goto 22, 3) := by decide +kernel
theorem dX5_goAlong_109 : decode cX5_goAlong 109 = .ok (.aload_n 0, 1) := by decide +kernel
theorem dX5_goAlong_110 : decode cX5_goAlong 110 = .ok (.iload_n 1, 1) := by decide +kernel
theorem dX5_goAlong_111 : decode cX5_goAlong 111 = .ok (.iload 7, 2) := by decide +kernel
theorem dX5_goAlong_113 : decode cX5_goAlong 113 = .ok (.iload_n 2, 1) := by decide +kernel
theorem dX5_goAlong_114 : decode cX5_goAlong 114 = .ok (.invokevirtual 103, 3) := by decide +kernel
theorem dX5_goAlong_117 : decode cX5_goAlong 117 = .ok (.aload_n 0, 1) := by decide +kernel
theorem dX5_goAlong_118 : decode cX5_goAlong 118 = .ok (.getfield 49, 3) := by decide +kernel
theorem dX5_goAlong_121 : decode cX5_goAlong 121 = .ok (.iload_n 1, 1) := by decide +kernel
theorem dX5_goAlong_122 : decode cX5_goAlong 122 = .ok (.iload 6, 2) := by decide +kernel
theorem dX5_goAlong_124 : decode cX5_goAlong 124 = .ok (.iastore, 1) := by decide +kernel
theorem dX5_goAlong_125 : decode cX5_goAlong 125 = .ok (.iinc 4 1, 3) := by decide +kernel
theorem dX5_goAlong_128 : decode cX5_goAlong 128 = .ok (.iinc 5 1, 3) := by decide +kernel
theorem dX5_goAlong_131 : decode cX5_goAlong 131 = .ok (.goto (-83), 3) := by decide +kernel
theorem dX5_goAlong_134 : decode cX5_goAlong 134 = .ok (.return_, 1) := by decide +kernel
theorem dX5_leaper_0 : decode cX5_leaper 0 = .ok (.aload_n 0, 1) := by decide +kernel
theorem dX5_leaper_1 : decode cX5_leaper 1 = .ok (.getfield 22, 3) := by decide +kernel
theorem dX5_leaper_4 : decode cX5_leaper 4 = .ok (.iload_n 1, 1) := by decide +kernel
theorem dX5_leaper_5 : decode cX5_leaper 5 = .ok (.iaload, 1) := by decide +kernel
theorem dX5_leaper_6 : decode cX5_leaper 6 = .ok (.bipush 10, 2) := by decide +kernel
theorem dX5_leaper_8 : decode cX5_leaper 8 = .ok (.irem, 1) := by decide +kernel
theorem dX5_leaper_9 : decode cX5_leaper 9 = .ok (.iload_n 2, 1) := by decide +kernel
theorem dX5_leaper_10 : decode cX5_leaper 10 = .ok (.iadd, 1) := by decide +kernel
theorem dX5_leaper_11 : decode cX5_leaper 11 = .ok (.istore_n 3, 1) := by decide +kernel
theorem dX5_leaper_12 : decode cX5_leaper 12 = .ok (.iload_n 3, 1) := by decide +kernel
theorem dX5_leaper_13 : decode cX5_leaper 13 = .ok (.iconst 0, 1) := by decide +kernel
theorem dX5_leaper_14 : decode cX5_leaper 14 = .ok (.bipush 9, 2) := by decide +kernel
theorem dX5_leaper_16 : decode cX5_leaper 16 = .ok (.invokestatic 75, 3) := by decide +kernel
theorem dX5_leaper_19 : decode cX5_leaper 19 = .ok (.ifCond .eq 19, 3) := by decide +kernel
theorem dX5_leaper_22 : decode cX5_leaper 22 = .ok (.aload_n 0, 1) := by decide +kernel
theorem dX5_leaper_23 : decode cX5_leaper 23 = .ok (.getfield 15, 3) := by decide +kernel
theorem dX5_leaper_26 : decode cX5_leaper 26 = .ok (.aload_n 0, 1) := by decide +kernel
theorem dX5_leaper_27 : decode cX5_leaper 27 = .ok (.getfield 22, 3) := by decide +kernel
theorem dX5_leaper_30 : decode cX5_leaper 30 = .ok (.iload_n 1, 1) := by decide +kernel
theorem dX5_leaper_31 : decode cX5_leaper 31 = .ok (.iaload, 1) := by decide +kernel
theorem dX5_leaper_32 : decode cX5_leaper 32 = .ok (.iload_n 2, 1) := by decide +kernel
theorem dX5_leaper_33 : decode cX5_leaper 33 = .ok (.iadd, 1) := by decide +kernel
theorem dX5_leaper_34 : decode cX5_leaper 34 = .ok (.iaload, 1) := by decide +kernel
theorem dX5_leaper_35 : decode cX5_leaper 35 = .ok (.goto 4, 3) := by decide +kernel
theorem dX5_leaper_38 : decode cX5_leaper 38 = .ok (.iconst (-1), 1) := by decide +kernel
theorem dX5_leaper_39 : decode cX5_leaper 39 = .ok (.istore 4, 2) := by decide +kernel
theorem dX5_leaper_41 : decode cX5_leaper 41 = .ok (.aload_n 0, 1) := by decide +kernel
theorem dX5_leaper_42 : decode cX5_leaper 42 = .ok (.getfield 3, 3) := by decide +kernel
theorem dX5_leaper_45 : decode cX5_leaper 45 = .ok (.getfield 107, 3) := by decide +kernel
theorem dX5_leaper_48 : decode cX5_leaper 48 = .ok (.aload_n 0, 1) := by decide +kernel
theorem dX5_leaper_49 : decode cX5_leaper 49 = .ok (.getfield 22, 3) := by decide +kernel
theorem dX5_leaper_52 : decode cX5_leaper 52 = .ok (.iload_n 1, 1) := by decide +kernel
theorem dX5_leaper_53 : decode cX5_leaper 53 = .ok (.iaload, 1) := by decide +kernel
theorem dX5_leaper_54 : decode cX5_leaper 54 = .ok (.bipush 10, 2) := by decide +kernel
theorem dX5_leaper_56 : decode cX5_leaper 56 = .ok (.idiv, 1) := by decide +kernel
theorem dX5_leaper_57 : decode cX5_leaper 57 = .ok (.iaload, 1) := by decide +kernel
theorem dX5_leaper_58 : decode cX5_leaper 58 = .ok (.bipush 6, 2) := by decide +kernel
theorem dX5_leaper_60 : decode cX5_leaper 60 = .ok (.if_icmp .lt 7, 3) := by decide +kernel
theorem dX5_leaper_63 : decode cX5_leaper 63 = .ok (.iconst 3, 1) := by decide +kernel
theorem dX5_leaper_64 : decode cX5_leaper 64 = .ok (.goto 4, 3) := by decide +kernel
theorem dX5_leaper_67 : decode cX5_leaper 67 = .ok (.iconst 5, 1) := by decide +kernel
theorem dX5_leaper_68 : decode cX5_leaper 68 = .ok (.istore 5, 2) := by decide +kernel
theorem dX5_leaper_70 : decode cX5_leaper 70 = .ok (.iload 4, 2) := by decide +kernel
theorem dX5_leaper_72 : decode cX5_leaper 72 = .ok (.iconst (-1), 1) := by decide +kernel
theorem dX5_leaper_73 : decode cX5_leaper 73 = .ok (.if_icmp .eq 30, 3) := by decide +kernel
theorem dX5_leaper_76 : decode cX5_leaper 76 = .ok (.aload_n 0, 1) := by decide +kernel
theorem dX5_leaper_77 : decode cX5_leaper 77 = .ok (.getfield 37, 3) := by decide +kernel
theorem dX5_leaper_80 : decode cX5_leaper 80 = .ok (.iload 4, 2) := by decide +kernel
theorem dX5_leaper_82 : decode cX5_leaper 82 = .ok (.iaload, 1) := by decide +kernel
theorem dX5_leaper_83 : decode cX5_leaper 83 = .ok (.ifCond .le 20, 3) := by decide +kernel
theorem dX5_leaper_86 : decode cX5_leaper 86 = .ok (.aload_n 0, 1) := by decide +kernel
theorem dX5_leaper_87 : decode cX5_leaper 87 = .ok (.getfield 40, 3) := by decide +kernel
theorem dX5_leaper_90 : decode cX5_leaper 90 = .ok (.iload 4, 2) := by decide +kernel
theorem dX5_leaper_92 : decode cX5_leaper 92 = .ok (.iaload, 1) := by decide +kernel
theorem dX5_leaper_93 : decode cX5_leaper 93 = .ok (.iload 5, 2) := by decide +kernel
theorem dX5_leaper_95 : decode cX5_leaper 95 = .ok (.if_icmp .lt 8, 3) := by decide +kernel
theorem dX5_leaper_98 : decode cX5_leaper 98 = .ok (.iload 4, 2) := by decide +kernel
theorem dX5_leaper_100 : decode cX5_leaper 100 = .ok (.goto 4, 3) := by decide +kernel
theorem dX5_leaper_103 : decode cX5_leaper 103 = .ok (.iconst (-1), 1) := by decide +kernel
theorem dX5_leaper_104 : decode cX5_leaper 104 = .ok (.ireturn, 1) := by decide +kernel
theorem dX5_leap_0 : decode cX5_leap 0 = .ok (.iconst 0, 1) := by decide +kernel
theorem dX5_leap_1 : decode cX5_leap 1 = .ok (.istore_n 1, 1) := by decide +kernel
theorem dX5_leap_2 : decode cX5_leap 2 = .ok (.iload_n 1, 1) := by decide +kernel
theorem dX5_leap_3 : decode cX5_leap 3 = .ok (.aload_n 0, 1) := by decide +kernel
theorem dX5_leap_4 : decode cX5_leap 4 = .ok (.getfield 3, 3) := by decide +kernel
theorem dX5_leap_7 : decode cX5_leap 7 = .ok (.getfield 110, 3) := by decide +kernel
theorem dX5_leap_10 : decode cX5_leap 10 = .ok (.if_icmp .ge 103, 3) := by decide +kernel
theorem dX5_leap_13 : decode cX5_leap 13 = .ok (.aload_n 0, 1) := by decide +kernel
theorem dX5_leap_14 : decode cX5_leap 14 = .ok (.getfield 52, 3) := by decide +kernel
theorem dX5_leap_17 : decode cX5_leap 17 = .ok (.iload_n 1, 1) := by decide +kernel
theorem dX5_leap_18 : decode cX5_leap 18 = .ok (.iconst (-1), 1) := by decide +kernel
theorem dX5_leap_19 : decode cX5_leap 19 = .ok (.iastore, 1) := by decide +kernel
theorem dX5_leap_20 : decode cX5_leap 20 = .ok (.aload_n 0, 1) := by decide +kernel
theorem dX5_leap_21 : decode cX5_leap 21 = .ok (.getfield 19, 3) := by decide +kernel
theorem dX5_leap_24 : decode cX5_leap 24 = .ok (.iload_n 1, 1) := by decide +kernel
theorem dX5_leap_25 : decode cX5_leap 25 = .ok (.iaload, 1) := by decide +kernel
theorem dX5_leap_26 : decode cX5_leap 26 = .ok (.ifCond .ne 81, 3) := by decide +kernel
theorem dX5_leap_29 : decode cX5_leap 29 = .ok (.aload_n 0, 1) := by decide +kernel
theorem dX5_leap_30 : decode cX5_leap 30 = .ok (.iload_n 1, 1) := by decide +kernel
theorem dX5_leap_31 : decode cX5_leap 31 = .ok (.invokevirtual 90, 3) := by decide +kernel
theorem dX5_leap_34 : decode cX5_leap 34 = .ok (.ifCond .ne 6, 3) := by decide +kernel
theorem dX5_leap_37 : decode cX5_leap 37 = .ok (.goto 70, 3) := by decide +kernel
theorem dX5_leap_40 : decode cX5_leap 40 = .ok (.aload_n 0, 1) := by decide +kernel
theorem dX5_leap_41 : decode cX5_leap 41 = .ok (.getfield 52, 3) := by decide +kernel
theorem dX5_leap_44 : decode cX5_leap 44 = .ok (.iload_n 1, 1) := by decide +kernel
theorem dX5_leap_45 : decode cX5_leap 45 = .ok (.aload_n 0, 1) := by decide +kernel
theorem dX5_leap_46 : decode cX5_leap 46 = .ok (.iload_n 1, 1) := by decide +kernel
theorem dX5_leap_47 : decode cX5_leap 47 = .ok (.iconst (-1), 1) := by decide +kernel
theorem dX5_leap_48 : decode cX5_leap 48 = .ok (.invokevirtual 113, 3) := by decide +kernel
theorem dX5_leap_51 : decode cX5_leap 51 = .ok (.iastore, 1) := by decide +kernel
theorem dX5_leap_52 : decode cX5_leap 52 = .ok (.aload_n 0, 1) := by decide +kernel
theorem dX5_leap_53 : decode cX5_leap 53 = .ok (.getfield 52, 3) := by decide +kernel
theorem dX5_leap_56 : decode cX5_leap 56 = .ok (.iload_n 1, 1) := by decide +kernel
theorem dX5_leap_57 : decode cX5_leap 57 = .ok (.iaload, 1) := by decide +kernel
theorem dX5_leap_58 : decode cX5_leap 58 = .ok (.iconst (-1), 1) := by decide +kernel
theorem dX5_leap_59 : decode cX5_leap 59 = .ok (.if_icmp .ne 15, 3) := by decide +kernel
theorem dX5_leap_62 : decode cX5_leap 62 = .ok (.aload_n 0, 1) := by decide +kernel
theorem dX5_leap_63 : decode cX5_leap 63 = .ok (.getfield 52, 3) := by decide +kernel
theorem dX5_leap_66 : decode cX5_leap 66 = .ok (.iload_n 1, 1) := by decide +kernel
theorem dX5_leap_67 : decode cX5_leap 67 = .ok (.aload_n 0, 1) := by decide +kernel
theorem dX5_leap_68 : decode cX5_leap 68 = .ok (.iload_n 1, 1) := by decide +kernel
theorem dX5_leap_69 : decode cX5_leap 69 = .ok (.iconst 1, 1) := by decide +kernel
theorem dX5_leap_70 : decode cX5_leap 70 = .ok (.invokevirtual 113, 3) := by decide +kernel
theorem dX5_leap_73 : decode cX5_leap 73 = .ok (.iastore, 1) := by decide +kernel
theorem dX5_leap_74 : decode cX5_leap 74 = .ok (.aload_n 0, 1) := by decide +kernel
theorem dX5_leap_75 : decode cX5_leap 75 = .ok (.getfield 52, 3) := by decide +kernel
theorem dX5_leap_78 : decode cX5_leap 78 = .ok (.iload_n 1, 1) := by decide +kernel
theorem dX5_leap_79 : decode cX5_leap 79 = .ok (.iaload, 1) := by decide +kernel
theorem dX5_leap_80 : decode cX5_leap 80 = .ok (.iconst (-1), 1) := by decide +kernel
theorem dX5_leap_81 : decode cX5_leap 81 = .ok (.if_icmp .eq 26, 3) := by decide +kernel
theorem dX5_leap_84 : decode cX5_leap 84 = .ok (.aload_n 0, 1) := by decide +kernel
theorem dX5_leap_85 : decode cX5_leap 85 = .ok (.getfield 52, 3) := by decide +kernel
theorem dX5_leap_88 : decode cX5_leap 88 = .ok (.iload_n 1, 1) := by decide +kernel
theorem dX5_leap_89 : decode cX5_leap 89 = .ok (.dup2, 1) := by decide +kernel
theorem dX5_leap_90 : decode cX5_leap 90 = .ok (.iaload, 1) := by decide +kernel
theorem dX5_leap_91 : decode cX5_leap 91 = .ok (.bipush 24, 2) := by decide +kernel
theorem dX5_leap_93 : decode cX5_leap 93 = .ok (.aload_n 0, 1) := by decide +kernel
theorem dX5_leap_94 : decode cX5_leap 94 = .ok (.getfield 37, 3) := by decide +kernel
theorem dX5_leap_97 : decode cX5_leap 97 = .ok (.aload_n 0, 1) := by decide +kernel
theorem dX5_leap_98 : decode cX5_leap 98 = .ok (.getfield 52, 3) := by decide +kernel
theorem dX5_leap_101 : decode cX5_leap 101 = .ok (.iload_n 1, 1) := by decide +kernel
theorem dX5_leap_102 : decode cX5_leap 102 = .ok (.iaload, 1) := by decide +kernel
theorem dX5_leap_103 : decode cX5_leap 103 = .ok (.iaload, 1) := by decide +kernel
theorem dX5_leap_104 : decode cX5_leap 104 = .ok (.imul, 1) := by decide +kernel
theorem dX5_leap_105 : decode cX5_leap 105 = .ok (.iadd, 1) := by decide +kernel
theorem dX5_leap_106 : decode cX5_leap 106 = .ok (.iastore, 1) := by decide +kernel
theorem dX5_leap_107 : decode cX5_leap 107 = .ok (.iinc 1 1, 3) := by decide +kernel
theorem dX5_leap_110 : decode cX5_leap 110 = .ok (.goto (-108), 3) := by decide +kernel
theorem dX5_leap_113 : decode cX5_leap 113 = .ok (.iconst 0, 1) := by decide +kernel
theorem dX5_leap_114 : decode cX5_leap 114 = .ok (.istore_n 1, 1) := by decide +kernel
theorem dX5_leap_115 : decode cX5_leap 115 = .ok (.iload_n 1, 1) := by decide +kernel
theorem dX5_leap_116 : decode cX5_leap 116 = .ok (.aload_n 0, 1) := by decide +kernel
theorem dX5_leap_117 : decode cX5_leap 117 = .ok (.getfield 3, 3) := by decide +kernel
theorem dX5_leap_120 : decode cX5_leap 120 = .ok (.getfield 110, 3) := by decide +kernel
theorem dX5_leap_123 : decode cX5_leap 123 = .ok (.if_icmp .ge 43, 3) := by decide +kernel
theorem dX5_leap_126 : decode cX5_leap 126 = .ok (.aload_n 0, 1) := by decide +kernel
theorem dX5_leap_127 : decode cX5_leap 127 = .ok (.getfield 52, 3) := by decide +kernel
theorem dX5_leap_130 : decode cX5_leap 130 = .ok (.iload_n 1, 1) := by decide +kernel
theorem dX5_leap_131 : decode cX5_leap 131 = .ok (.iaload, 1) := by decide +kernel
theorem dX5_leap_132 : decode cX5_leap 132 = .ok (.iconst (-1), 1) := by decide +kernel
theorem dX5_leap_133 : decode cX5_leap 133 = .ok (.if_icmp .eq 27, 3) := by decide +kernel
theorem dX5_leap_136 : decode cX5_leap 136 = .ok (.aload_n 0, 1) := by decide +kernel
theorem dX5_leap_137 : decode cX5_leap 137 = .ok (.iload_n 1, 1) := by decide +kernel
theorem dX5_leap_138 : decode cX5_leap 138 = .ok (.aload_n 0, 1) := by decide +kernel
theorem dX5_leap_139 : decode cX5_leap 139 = .ok (.getfield 52, 3) := by decide +kernel
theorem dX5_leap_142 : decode cX5_leap 142 = .ok (.iload_n 1, 1) := by decide +kernel
theorem dX5_leap_143 : decode cX5_leap 143 = .ok (.iaload, 1) := by decide +kernel
theorem dX5_leap_144 : decode cX5_leap 144 = .ok (.bipush 24, 2) := by decide +kernel
theorem dX5_leap_146 : decode cX5_leap 146 = .ok (.idiv, 1) := by decide +kernel
theorem dX5_leap_147 : decode cX5_leap 147 = .ok (.iconst 1, 1) := by decide +kernel
theorem dX5_leap_148 : decode cX5_leap 148 = .ok (.aload_n 0, 1) := by decide +kernel
theorem dX5_leap_149 : decode cX5_leap 149 = .ok (.getfield 52, 3) := by decide +kernel
theorem dX5_leap_152 : decode cX5_leap 152 = .ok (.iload_n 1, 1) := by decide +kernel
theorem dX5_leap_153 : decode cX5_leap 153 = .ok (.iaload, 1) := by decide +kernel
theorem dX5_leap_154 : decode cX5_leap 154 = .ok (.bipush 24, 2) := by decide +kernel
theorem dX5_leap_156 : decode cX5_leap 156 = .ok (.irem, 1) := by decide +kernel
theorem dX5_leap_157 : decode cX5_leap 157 = .ok (.invokevirtual 86, 3) := by decide +kernel
theorem dX5_leap_160 : decode cX5_leap 160 = .ok (.iinc 1 1, 3) := by decide +kernel
theorem dX5_leap_163 : decode cX5_leap 163 = .ok (.goto (-48), 3) := by decide +kernel
theorem dX5_leap_166 : decode cX5_leap 166 = .ok (.return_, 1) := by decide +kernel
theorem dX5_ripen_0 : decode cX5_ripen 0 = .ok (.aload_n 0, 1) := by decide +kernel
theorem dX5_ripen_1 : decode cX5_ripen 1 = .ok (.getfield 22, 3) := by decide +kernel
theorem dX5_ripen_4 : decode cX5_ripen 4 = .ok (.iload_n 1, 1) := by decide +kernel
theorem dX5_ripen_5 : decode cX5_ripen 5 = .ok (.iaload, 1) := by decide +kernel
theorem dX5_ripen_6 : decode cX5_ripen 6 = .ok (.bipush 10, 2) := by decide +kernel
theorem dX5_ripen_8 : decode cX5_ripen 8 = .ok (.idiv, 1) := by decide +kernel
theorem dX5_ripen_9 : decode cX5_ripen 9 = .ok (.istore_n 2, 1) := by decide +kernel
theorem dX5_ripen_10 : decode cX5_ripen 10 = .ok (.aload_n 0, 1) := by decide +kernel
theorem dX5_ripen_11 : decode cX5_ripen 11 = .ok (.getfield 37, 3) := by decide +kernel
theorem dX5_ripen_14 : decode cX5_ripen 14 = .ok (.iload_n 1, 1) := by decide +kernel
theorem dX5_ripen_15 : decode cX5_ripen 15 = .ok (.iaload, 1) := by decide +kernel
theorem dX5_ripen_16 : decode cX5_ripen 16 = .ok (.ifCond .le 51, 3) := by decide +kernel
theorem dX5_ripen_19 : decode cX5_ripen 19 = .ok (.aload_n 0, 1) := by decide +kernel
theorem dX5_ripen_20 : decode cX5_ripen 20 = .ok (.getfield 28, 3) := by decide +kernel
theorem dX5_ripen_23 : decode cX5_ripen 23 = .ok (.iload_n 1, 1) := by decide +kernel
theorem dX5_ripen_24 : decode cX5_ripen 24 = .ok (.iaload, 1) := by decide +kernel
theorem dX5_ripen_25 : decode cX5_ripen 25 = .ok (.bipush 12, 2) := by decide +kernel
theorem dX5_ripen_27 : decode cX5_ripen 27 = .ok (.if_icmp .ge 40, 3) := by decide +kernel
theorem dX5_ripen_30 : decode cX5_ripen 30 = .ok (.aload_n 0, 1) := by decide +kernel
theorem dX5_ripen_31 : decode cX5_ripen 31 = .ok (.getfield 40, 3) := by decide +kernel
theorem dX5_ripen_34 : decode cX5_ripen 34 = .ok (.iload_n 1, 1) := by decide +kernel
theorem dX5_ripen_35 : decode cX5_ripen 35 = .ok (.bipush 9, 2) := by decide +kernel
theorem dX5_ripen_37 : decode cX5_ripen 37 = .ok (.aload_n 0, 1) := by decide +kernel
theorem dX5_ripen_38 : decode cX5_ripen 38 = .ok (.getfield 40, 3) := by decide +kernel
theorem dX5_ripen_41 : decode cX5_ripen 41 = .ok (.iload_n 1, 1) := by decide +kernel
theorem dX5_ripen_42 : decode cX5_ripen 42 = .ok (.iaload, 1) := by decide +kernel
theorem dX5_ripen_43 : decode cX5_ripen 43 = .ok (.aload_n 0, 1) := by decide +kernel
theorem dX5_ripen_44 : decode cX5_ripen 44 = .ok (.getfield 3, 3) := by decide +kernel
theorem dX5_ripen_47 : decode cX5_ripen 47 = .ok (.getfield 107, 3) := by decide +kernel
theorem dX5_ripen_50 : decode cX5_ripen 50 = .ok (.iload_n 2, 1) := by decide +kernel
theorem dX5_ripen_51 : decode cX5_ripen 51 = .ok (.iaload, 1) := by decide +kernel
theorem dX5_ripen_52 : decode cX5_ripen 52 = .ok (.bipush 6, 2) := by decide +kernel
theorem dX5_ripen_54 : decode cX5_ripen 54 = .ok (.if_icmp .lt 7, 3) := by decide +kernel
theorem dX5_ripen_57 : decode cX5_ripen 57 = .ok (.iconst 2, 1) := by decide +kernel
theorem dX5_ripen_58 : decode cX5_ripen 58 = .ok (.goto 4, 3) := by decide +kernel
theorem dX5_ripen_61 : decode cX5_ripen 61 = .ok (.iconst 1, 1) := by decide +kernel
theorem dX5_ripen_62 : decode cX5_ripen 62 = .ok (.iadd, 1) := by decide +kernel
theorem dX5_ripen_63 : decode cX5_ripen 63 = .ok (.invokestatic 83, 3) := by decide +kernel
theorem dX5_ripen_66 : decode cX5_ripen 66 = .ok (.iastore, 1) := by decide +kernel
theorem dX5_ripen_67 : decode cX5_ripen 67 = .ok (.aload_n 0, 1) := by decide +kernel
theorem dX5_ripen_68 : decode cX5_ripen 68 = .ok (.getfield 25, 3) := by decide +kernel
theorem dX5_ripen_71 : decode cX5_ripen 71 = .ok (.iload_n 1, 1) := by decide +kernel
theorem dX5_ripen_72 : decode cX5_ripen 72 = .ok (.bipush 100, 2) := by decide +kernel
theorem dX5_ripen_74 : decode cX5_ripen 74 = .ok (.aload_n 0, 1) := by decide +kernel
theorem dX5_ripen_75 : decode cX5_ripen 75 = .ok (.getfield 25, 3) := by decide +kernel
theorem dX5_ripen_78 : decode cX5_ripen 78 = .ok (.iload_n 1, 1) := by decide +kernel
theorem dX5_ripen_79 : decode cX5_ripen 79 = .ok (.iaload, 1) := by decide +kernel
theorem dX5_ripen_80 : decode cX5_ripen 80 = .ok (.aload_n 0, 1) := by decide +kernel
theorem dX5_ripen_81 : decode cX5_ripen 81 = .ok (.getfield 34, 3) := by decide +kernel
theorem dX5_ripen_84 : decode cX5_ripen 84 = .ok (.iload_n 1, 1) := by decide +kernel
theorem dX5_ripen_85 : decode cX5_ripen 85 = .ok (.iaload, 1) := by decide +kernel
theorem dX5_ripen_86 : decode cX5_ripen 86 = .ok (.bipush 7, 2) := by decide +kernel
theorem dX5_ripen_88 : decode cX5_ripen 88 = .ok (.if_icmp .lt 17, 3) := by decide +kernel
theorem dX5_ripen_91 : decode cX5_ripen 91 = .ok (.aload_n 0, 1) := by decide +kernel
theorem dX5_ripen_92 : decode cX5_ripen 92 = .ok (.getfield 3, 3) := by decide +kernel
theorem dX5_ripen_95 : decode cX5_ripen 95 = .ok (.getfield 116, 3) := by decide +kernel
theorem dX5_ripen_98 : decode cX5_ripen 98 = .ok (.iload_n 2, 1) := by decide +kernel
theorem dX5_ripen_99 : decode cX5_ripen 99 = .ok (.iaload, 1) := by decide +kernel
theorem dX5_ripen_100 : decode cX5_ripen 100 = .ok (.iconst 2, 1) := by decide +kernel
theorem dX5_ripen_101 : decode cX5_ripen 101 = .ok (.idiv, 1) := by decide +kernel
theorem dX5_ripen_102 : decode cX5_ripen 102 = .ok (.goto 12, 3) := by decide +kernel
theorem dX5_ripen_105 : decode cX5_ripen 105 = .ok (.aload_n 0, 1) := by decide +kernel
theorem dX5_ripen_106 : decode cX5_ripen 106 = .ok (.getfield 3, 3) := by decide +kernel
theorem dX5_ripen_109 : decode cX5_ripen 109 = .ok (.getfield 116, 3) := by decide +kernel
theorem dX5_ripen_112 : decode cX5_ripen 112 = .ok (.iload_n 2, 1) := by decide +kernel
theorem dX5_ripen_113 : decode cX5_ripen 113 = .ok (.iaload, 1) := by decide +kernel
theorem dX5_ripen_114 : decode cX5_ripen 114 = .ok (.iadd, 1) := by decide +kernel
theorem dX5_ripen_115 : decode cX5_ripen 115 = .ok (.invokestatic 83, 3) := by decide +kernel
theorem dX5_ripen_118 : decode cX5_ripen 118 = .ok (.iastore, 1) := by decide +kernel
theorem dX5_ripen_119 : decode cX5_ripen 119 = .ok (.aload_n 0, 1) := by decide +kernel
theorem dX5_ripen_120 : decode cX5_ripen 120 = .ok (.getfield 31, 3) := by decide +kernel
theorem dX5_ripen_123 : decode cX5_ripen 123 = .ok (.iload_n 1, 1) := by decide +kernel
theorem dX5_ripen_124 : decode cX5_ripen 124 = .ok (.iconst 0, 1) := by decide +kernel
theorem dX5_ripen_125 : decode cX5_ripen 125 = .ok (.aload_n 0, 1) := by decide +kernel
theorem dX5_ripen_126 : decode cX5_ripen 126 = .ok (.getfield 31, 3) := by decide +kernel
theorem dX5_ripen_129 : decode cX5_ripen 129 = .ok (.iload_n 1, 1) := by decide +kernel
theorem dX5_ripen_130 : decode cX5_ripen 130 = .ok (.iaload, 1) := by decide +kernel
theorem dX5_ripen_131 : decode cX5_ripen 131 = .ok (.bipush 10, 2) := by decide +kernel
theorem dX5_ripen_133 : decode cX5_ripen 133 = .ok (.aload_n 0, 1) := by decide +kernel
theorem dX5_ripen_134 : decode cX5_ripen 134 = .ok (.getfield 3, 3) := by decide +kernel
theorem dX5_ripen_137 : decode cX5_ripen 137 = .ok (.getfield 107, 3) := by decide +kernel
theorem dX5_ripen_140 : decode cX5_ripen 140 = .ok (.iload_n 2, 1) := by decide +kernel
theorem dX5_ripen_141 : decode cX5_ripen 141 = .ok (.iaload, 1) := by decide +kernel
theorem dX5_ripen_142 : decode cX5_ripen 142 = .ok (.isub, 1) := by decide +kernel
theorem dX5_ripen_143 : decode cX5_ripen 143 = .ok (.iconst 2, 1) := by decide +kernel
theorem dX5_ripen_144 : decode cX5_ripen 144 = .ok (.idiv, 1) := by decide +kernel
theorem dX5_ripen_145 : decode cX5_ripen 145 = .ok (.isub, 1) := by decide +kernel
theorem dX5_ripen_146 : decode cX5_ripen 146 = .ok (.invokestatic 79, 3) := by decide +kernel
theorem dX5_ripen_149 : decode cX5_ripen 149 = .ok (.iastore, 1) := by decide +kernel
theorem dX5_ripen_150 : decode cX5_ripen 150 = .ok (.aload_n 0, 1) := by decide +kernel
theorem dX5_ripen_151 : decode cX5_ripen 151 = .ok (.getfield 34, 3) := by decide +kernel
theorem dX5_ripen_154 : decode cX5_ripen 154 = .ok (.iload_n 1, 1) := by decide +kernel
theorem dX5_ripen_155 : decode cX5_ripen 155 = .ok (.dup2, 1) := by decide +kernel
theorem dX5_ripen_156 : decode cX5_ripen 156 = .ok (.iaload, 1) := by decide +kernel
theorem dX5_ripen_157 : decode cX5_ripen 157 = .ok (.iconst 1, 1) := by decide +kernel
theorem dX5_ripen_158 : decode cX5_ripen 158 = .ok (.iadd, 1) := by decide +kernel
theorem dX5_ripen_159 : decode cX5_ripen 159 = .ok (.iastore, 1) := by decide +kernel
theorem dX5_ripen_160 : decode cX5_ripen 160 = .ok (.aload_n 0, 1) := by decide +kernel
theorem dX5_ripen_161 : decode cX5_ripen 161 = .ok (.getfield 37, 3) := by decide +kernel
theorem dX5_ripen_164 : decode cX5_ripen 164 = .ok (.iload_n 1, 1) := by decide +kernel
theorem dX5_ripen_165 : decode cX5_ripen 165 = .ok (.iaload, 1) := by decide +kernel
theorem dX5_ripen_166 : decode cX5_ripen 166 = .ok (.iconst 3, 1) := by decide +kernel
theorem dX5_ripen_167 : decode cX5_ripen 167 = .ok (.if_icmp .ne 14, 3) := by decide +kernel
theorem dX5_ripen_170 : decode cX5_ripen 170 = .ok (.aload_n 0, 1) := by decide +kernel
theorem dX5_ripen_171 : decode cX5_ripen 171 = .ok (.getfield 40, 3) := by decide +kernel
theorem dX5_ripen_174 : decode cX5_ripen 174 = .ok (.iload_n 1, 1) := by decide +kernel
theorem dX5_ripen_175 : decode cX5_ripen 175 = .ok (.iaload, 1) := by decide +kernel
theorem dX5_ripen_176 : decode cX5_ripen 176 = .ok (.bipush 9, 2) := by decide +kernel
theorem dX5_ripen_178 : decode cX5_ripen 178 = .ok (.if_icmp .eq 12, 3) := by decide +kernel
theorem dX5_ripen_181 : decode cX5_ripen 181 = .ok (.aload_n 0, 1) := by decide +kernel
theorem dX5_ripen_182 : decode cX5_ripen 182 = .ok (.getfield 31, 3) := by decide +kernel
theorem dX5_ripen_185 : decode cX5_ripen 185 = .ok (.iload_n 1, 1) := by decide +kernel
theorem dX5_ripen_186 : decode cX5_ripen 186 = .ok (.iaload, 1) := by decide +kernel
theorem dX5_ripen_187 : decode cX5_ripen 187 = .ok (.ifCond .ne 9, 3) := by decide +kernel
theorem dX5_ripen_190 : decode cX5_ripen 190 = .ok (.aload_n 0, 1) := by decide +kernel
theorem dX5_ripen_191 : decode cX5_ripen 191 = .ok (.iload_n 1, 1) := by decide +kernel
theorem dX5_ripen_192 : decode cX5_ripen 192 = .ok (.iconst 2, 1) := by decide +kernel
theorem dX5_ripen_193 : decode cX5_ripen 193 = .ok (.invokevirtual 119, 3) := by decide +kernel
theorem dX5_ripen_196 : decode cX5_ripen 196 = .ok (.return_, 1) := by decide +kernel
theorem dX5_pass_0 : decode cX5_pass 0 = .ok (.iconst 0, 1) := by decide +kernel
theorem dX5_pass_1 : decode cX5_pass 1 = .ok (.istore_n 1, 1) := by decide +kernel
theorem dX5_pass_2 : decode cX5_pass 2 = .ok (.iload_n 1, 1) := by decide +kernel
theorem dX5_pass_3 : decode cX5_pass 3 = .ok (.aload_n 0, 1) := by decide +kernel
theorem dX5_pass_4 : decode cX5_pass 4 = .ok (.getfield 3, 3) := by decide +kernel
theorem dX5_pass_7 : decode cX5_pass 7 = .ok (.getfield 123, 3) := by decide +kernel
theorem dX5_pass_10 : decode cX5_pass 10 = .ok (.if_icmp .ge 14, 3) := by decide +kernel
theorem dX5_pass_13 : decode cX5_pass 13 = .ok (.aload_n 0, 1) := by decide +kernel
theorem dX5_pass_14 : decode cX5_pass 14 = .ok (.iload_n 1, 1) := by decide +kernel
theorem dX5_pass_15 : decode cX5_pass 15 = .ok (.invokevirtual 126, 3) := by decide +kernel
theorem dX5_pass_18 : decode cX5_pass 18 = .ok (.iinc 1 1, 3) := by decide +kernel
theorem dX5_pass_21 : decode cX5_pass 21 = .ok (.goto (-19), 3) := by decide +kernel
theorem dX5_pass_24 : decode cX5_pass 24 = .ok (.aload_n 0, 1) := by decide +kernel
theorem dX5_pass_25 : decode cX5_pass 25 = .ok (.invokevirtual 130, 3) := by decide +kernel
theorem dX5_pass_28 : decode cX5_pass 28 = .ok (.iconst 0, 1) := by decide +kernel
theorem dX5_pass_29 : decode cX5_pass 29 = .ok (.istore_n 1, 1) := by decide +kernel
theorem dX5_pass_30 : decode cX5_pass 30 = .ok (.iload_n 1, 1) := by decide +kernel
theorem dX5_pass_31 : decode cX5_pass 31 = .ok (.aload_n 0, 1) := by decide +kernel
theorem dX5_pass_32 : decode cX5_pass 32 = .ok (.getfield 3, 3) := by decide +kernel
theorem dX5_pass_35 : decode cX5_pass 35 = .ok (.getfield 110, 3) := by decide +kernel
theorem dX5_pass_38 : decode cX5_pass 38 = .ok (.if_icmp .ge 23, 3) := by decide +kernel
theorem dX5_pass_41 : decode cX5_pass 41 = .ok (.aload_n 0, 1) := by decide +kernel
theorem dX5_pass_42 : decode cX5_pass 42 = .ok (.getfield 19, 3) := by decide +kernel
theorem dX5_pass_45 : decode cX5_pass 45 = .ok (.iload_n 1, 1) := by decide +kernel
theorem dX5_pass_46 : decode cX5_pass 46 = .ok (.iaload, 1) := by decide +kernel
theorem dX5_pass_47 : decode cX5_pass 47 = .ok (.ifCond .ne 8, 3) := by decide +kernel
theorem dX5_pass_50 : decode cX5_pass 50 = .ok (.aload_n 0, 1) := by decide +kernel
theorem dX5_pass_51 : decode cX5_pass 51 = .ok (.iload_n 1, 1) := by decide +kernel
theorem dX5_pass_52 : decode cX5_pass 52 = .ok (.invokevirtual 133, 3) := by decide +kernel
theorem dX5_pass_55 : decode cX5_pass 55 = .ok (.iinc 1 1, 3) := by decide +kernel
theorem dX5_pass_58 : decode cX5_pass 58 = .ok (.goto (-28), 3) := by decide +kernel
theorem dX5_pass_61 : decode cX5_pass 61 = .ok (.aload_n 0, 1) := by decide +kernel
theorem dX5_pass_62 : decode cX5_pass 62 = .ok (.dup, 1) := by decide +kernel
theorem dX5_pass_63 : decode cX5_pass 63 = .ok (.getfield 61, 3) := by decide +kernel
theorem dX5_pass_66 : decode cX5_pass 66 = .ok (.iconst 1, 1) := by decide +kernel
theorem dX5_pass_67 : decode cX5_pass 67 = .ok (.iadd, 1) := by decide +kernel
theorem dX5_pass_68 : decode cX5_pass 68 = .ok (.putfield 61, 3) := by decide +kernel
theorem dX5_pass_71 : decode cX5_pass 71 = .ok (.return_, 1) := by decide +kernel
theorem dX5_pass__0 : decode cX5_pass_ 0 = .ok (.iconst 0, 1) := by decide +kernel
theorem dX5_pass__1 : decode cX5_pass_ 1 = .ok (.istore_n 2, 1) := by decide +kernel
theorem dX5_pass__2 : decode cX5_pass_ 2 = .ok (.iload_n 2, 1) := by decide +kernel
theorem dX5_pass__3 : decode cX5_pass_ 3 = .ok (.iload_n 1, 1) := by decide +kernel
theorem dX5_pass__4 : decode cX5_pass_ 4 = .ok (.if_icmp .ge 13, 3) := by decide +kernel
theorem dX5_pass__7 : decode cX5_pass_ 7 = .ok (.aload_n 0, 1) := by decide +kernel
theorem dX5_pass__8 : decode cX5_pass_ 8 = .ok (.invokevirtual 136, 3) := by decide +kernel
theorem dX5_pass__11 : decode cX5_pass_ 11 = .ok (.iinc 2 1, 3) := by decide +kernel
theorem dX5_pass__14 : decode cX5_pass_ 14 = .ok (.goto (-12), 3) := by decide +kernel
theorem dX5_pass__17 : decode cX5_pass_ 17 = .ok (.return_, 1) := by decide +kernel
theorem dX5_many_0 : decode cX5_many 0 = .ok (.iconst 0, 1) := by decide +kernel
theorem dX5_many_1 : decode cX5_many 1 = .ok (.istore_n 2, 1) := by decide +kernel
theorem dX5_many_2 : decode cX5_many 2 = .ok (.iconst 0, 1) := by decide +kernel
theorem dX5_many_3 : decode cX5_many 3 = .ok (.istore_n 3, 1) := by decide +kernel
theorem dX5_many_4 : decode cX5_many 4 = .ok (.iload_n 3, 1) := by decide +kernel
theorem dX5_many_5 : decode cX5_many 5 = .ok (.aload_n 0, 1) := by decide +kernel
theorem dX5_many_6 : decode cX5_many 6 = .ok (.getfield 3, 3) := by decide +kernel
theorem dX5_many_9 : decode cX5_many 9 = .ok (.getfield 110, 3) := by decide +kernel
theorem dX5_many_12 : decode cX5_many 12 = .ok (.if_icmp .ge 27, 3) := by decide +kernel
theorem dX5_many_15 : decode cX5_many 15 = .ok (.iload_n 2, 1) := by decide +kernel
theorem dX5_many_16 : decode cX5_many 16 = .ok (.aload_n 0, 1) := by decide +kernel
theorem dX5_many_17 : decode cX5_many 17 = .ok (.getfield 19, 3) := by decide +kernel
theorem dX5_many_20 : decode cX5_many 20 = .ok (.iload_n 3, 1) := by decide +kernel
theorem dX5_many_21 : decode cX5_many 21 = .ok (.iaload, 1) := by decide +kernel
theorem dX5_many_22 : decode cX5_many 22 = .ok (.iload_n 1, 1) := by decide +kernel
theorem dX5_many_23 : decode cX5_many 23 = .ok (.if_icmp .ne 7, 3) := by decide +kernel
theorem dX5_many_26 : decode cX5_many 26 = .ok (.iconst 1, 1) := by decide +kernel
theorem dX5_many_27 : decode cX5_many 27 = .ok (.goto 4, 3) := by decide +kernel
theorem dX5_many_30 : decode cX5_many 30 = .ok (.iconst 0, 1) := by decide +kernel
theorem dX5_many_31 : decode cX5_many 31 = .ok (.iadd, 1) := by decide +kernel
theorem dX5_many_32 : decode cX5_many 32 = .ok (.istore_n 2, 1) := by decide +kernel
theorem dX5_many_33 : decode cX5_many 33 = .ok (.iinc 3 1, 3) := by decide +kernel
theorem dX5_many_36 : decode cX5_many 36 = .ok (.goto (-32), 3) := by decide +kernel
theorem dX5_many_39 : decode cX5_many 39 = .ok (.iload_n 2, 1) := by decide +kernel
theorem dX5_many_40 : decode cX5_many 40 = .ok (.ireturn, 1) := by decide +kernel
theorem dX5_mouldy_0 : decode cX5_mouldy 0 = .ok (.iconst 0, 1) := by decide +kernel
theorem dX5_mouldy_1 : decode cX5_mouldy 1 = .ok (.istore_n 1, 1) := by decide +kernel
theorem dX5_mouldy_2 : decode cX5_mouldy 2 = .ok (.iconst 0, 1) := by decide +kernel
theorem dX5_mouldy_3 : decode cX5_mouldy 3 = .ok (.istore_n 2, 1) := by decide +kernel
theorem dX5_mouldy_4 : decode cX5_mouldy 4 = .ok (.iload_n 2, 1) := by decide +kernel
theorem dX5_mouldy_5 : decode cX5_mouldy 5 = .ok (.aload_n 0, 1) := by decide +kernel
theorem dX5_mouldy_6 : decode cX5_mouldy 6 = .ok (.getfield 3, 3) := by decide +kernel
theorem dX5_mouldy_9 : decode cX5_mouldy 9 = .ok (.getfield 110, 3) := by decide +kernel
theorem dX5_mouldy_12 : decode cX5_mouldy 12 = .ok (.if_icmp .ge 35, 3) := by decide +kernel
theorem dX5_mouldy_15 : decode cX5_mouldy 15 = .ok (.iload_n 1, 1) := by decide +kernel
theorem dX5_mouldy_16 : decode cX5_mouldy 16 = .ok (.aload_n 0, 1) := by decide +kernel
theorem dX5_mouldy_17 : decode cX5_mouldy 17 = .ok (.getfield 19, 3) := by decide +kernel
theorem dX5_mouldy_20 : decode cX5_mouldy 20 = .ok (.iload_n 2, 1) := by decide +kernel
theorem dX5_mouldy_21 : decode cX5_mouldy 21 = .ok (.iaload, 1) := by decide +kernel
theorem dX5_mouldy_22 : decode cX5_mouldy 22 = .ok (.ifCond .ne 16, 3) := by decide +kernel
theorem dX5_mouldy_25 : decode cX5_mouldy 25 = .ok (.aload_n 0, 1) := by decide +kernel
theorem dX5_mouldy_26 : decode cX5_mouldy 26 = .ok (.getfield 37, 3) := by decide +kernel
theorem dX5_mouldy_29 : decode cX5_mouldy 29 = .ok (.iload_n 2, 1) := by decide +kernel
theorem dX5_mouldy_30 : decode cX5_mouldy 30 = .ok (.iaload, 1) := by decide +kernel
theorem dX5_mouldy_31 : decode cX5_mouldy 31 = .ok (.ifCond .le 7, 3) := by decide +kernel
theorem dX5_mouldy_34 : decode cX5_mouldy 34 = .ok (.iconst 1, 1) := by decide +kernel
theorem dX5_mouldy_35 : decode cX5_mouldy 35 = .ok (.goto 4, 3) := by decide +kernel
theorem dX5_mouldy_38 : decode cX5_mouldy 38 = .ok (.iconst 0, 1) := by decide +kernel
theorem dX5_mouldy_39 : decode cX5_mouldy 39 = .ok (.iadd, 1) := by decide +kernel
theorem dX5_mouldy_40 : decode cX5_mouldy 40 = .ok (.istore_n 1, 1) := by decide +kernel
theorem dX5_mouldy_41 : decode cX5_mouldy 41 = .ok (.iinc 2 1, 3) := by decide +kernel
theorem dX5_mouldy_44 : decode cX5_mouldy 44 = .ok (.goto (-40), 3) := by decide +kernel
theorem dX5_mouldy_47 : decode cX5_mouldy 47 = .ok (.iload_n 1, 1) := by decide +kernel
theorem dX5_mouldy_48 : decode cX5_mouldy 48 = .ok (.ireturn, 1) := by decide +kernel
theorem dX5_worthInAll_0 : decode cX5_worthInAll 0 = .ok (.iconst 0, 1) := by decide +kernel
theorem dX5_worthInAll_1 : decode cX5_worthInAll 1 = .ok (.istore_n 1, 1) := by decide +kernel
theorem dX5_worthInAll_2 : decode cX5_worthInAll 2 = .ok (.iconst 0, 1) := by decide +kernel
theorem dX5_worthInAll_3 : decode cX5_worthInAll 3 = .ok (.istore_n 2, 1) := by decide +kernel
theorem dX5_worthInAll_4 : decode cX5_worthInAll 4 = .ok (.iload_n 2, 1) := by decide +kernel
theorem dX5_worthInAll_5 : decode cX5_worthInAll 5 = .ok (.aload_n 0, 1) := by decide +kernel
theorem dX5_worthInAll_6 : decode cX5_worthInAll 6 = .ok (.getfield 3, 3) := by decide +kernel
theorem dX5_worthInAll_9 : decode cX5_worthInAll 9 = .ok (.getfield 110, 3) := by decide +kernel
theorem dX5_worthInAll_12 : decode cX5_worthInAll 12 = .ok (.if_icmp .ge 30, 3) := by decide +kernel
theorem dX5_worthInAll_15 : decode cX5_worthInAll 15 = .ok (.iload_n 1, 1) := by decide +kernel
theorem dX5_worthInAll_16 : decode cX5_worthInAll 16 = .ok (.aload_n 0, 1) := by decide +kernel
theorem dX5_worthInAll_17 : decode cX5_worthInAll 17 = .ok (.getfield 19, 3) := by decide +kernel
theorem dX5_worthInAll_20 : decode cX5_worthInAll 20 = .ok (.iload_n 2, 1) := by decide +kernel
theorem dX5_worthInAll_21 : decode cX5_worthInAll 21 = .ok (.iaload, 1) := by decide +kernel
theorem dX5_worthInAll_22 : decode cX5_worthInAll 22 = .ok (.ifCond .ne 11, 3) := by decide +kernel
theorem dX5_worthInAll_25 : decode cX5_worthInAll 25 = .ok (.aload_n 0, 1) := by decide +kernel
theorem dX5_worthInAll_26 : decode cX5_worthInAll 26 = .ok (.iload_n 2, 1) := by decide +kernel
theorem dX5_worthInAll_27 : decode cX5_worthInAll 27 = .ok (.invokevirtual 139, 3) := by decide +kernel
theorem dX5_worthInAll_30 : decode cX5_worthInAll 30 = .ok (.goto 4, 3) := by decide +kernel
theorem dX5_worthInAll_33 : decode cX5_worthInAll 33 = .ok (.iconst 0, 1) := by decide +kernel
theorem dX5_worthInAll_34 : decode cX5_worthInAll 34 = .ok (.iadd, 1) := by decide +kernel
theorem dX5_worthInAll_35 : decode cX5_worthInAll 35 = .ok (.istore_n 1, 1) := by decide +kernel
theorem dX5_worthInAll_36 : decode cX5_worthInAll 36 = .ok (.iinc 2 1, 3) := by decide +kernel
theorem dX5_worthInAll_39 : decode cX5_worthInAll 39 = .ok (.goto (-35), 3) := by decide +kernel
theorem dX5_worthInAll_42 : decode cX5_worthInAll 42 = .ok (.iload_n 1, 1) := by decide +kernel
theorem dX5_worthInAll_43 : decode cX5_worthInAll 43 = .ok (.ireturn, 1) := by decide +kernel
theorem dX5_worthNow_0 : decode cX5_worthNow 0 = .ok (.aload_n 0, 1) := by decide +kernel
theorem dX5_worthNow_1 : decode cX5_worthNow 1 = .ok (.getfield 19, 3) := by decide +kernel
theorem dX5_worthNow_4 : decode cX5_worthNow 4 = .ok (.iload_n 1, 1) := by decide +kernel
theorem dX5_worthNow_5 : decode cX5_worthNow 5 = .ok (.iaload, 1) := by decide +kernel
theorem dX5_worthNow_6 : decode cX5_worthNow 6 = .ok (.ifCond .ne 11, 3) := by decide +kernel
theorem dX5_worthNow_9 : decode cX5_worthNow 9 = .ok (.aload_n 0, 1) := by decide +kernel
theorem dX5_worthNow_10 : decode cX5_worthNow 10 = .ok (.iload_n 1, 1) := by decide +kernel
theorem dX5_worthNow_11 : decode cX5_worthNow 11 = .ok (.invokevirtual 139, 3) := by decide +kernel
theorem dX5_worthNow_14 : decode cX5_worthNow 14 = .ok (.goto 4, 3) := by decide +kernel
theorem dX5_worthNow_17 : decode cX5_worthNow 17 = .ok (.iconst 0, 1) := by decide +kernel
theorem dX5_worthNow_18 : decode cX5_worthNow 18 = .ok (.ireturn, 1) := by decide +kernel
theorem dX5_put_0 : decode cX5_put 0 = .ok (.aload_n 0, 1) := by decide +kernel
theorem dX5_put_1 : decode cX5_put 1 = .ok (.getfield 15, 3) := by decide +kernel
theorem dX5_put_4 : decode cX5_put 4 = .ok (.iload_n 2, 1) := by decide +kernel
theorem dX5_put_5 : decode cX5_put 5 = .ok (.iload_n 1, 1) := by decide +kernel
theorem dX5_put_6 : decode cX5_put 6 = .ok (.iastore, 1) := by decide +kernel
theorem dX5_put_7 : decode cX5_put 7 = .ok (.aload_n 0, 1) := by decide +kernel
theorem dX5_put_8 : decode cX5_put 8 = .ok (.getfield 22, 3) := by decide +kernel
theorem dX5_put_11 : decode cX5_put 11 = .ok (.iload_n 1, 1) := by decide +kernel
theorem dX5_put_12 : decode cX5_put 12 = .ok (.iload_n 2, 1) := by decide +kernel
theorem dX5_put_13 : decode cX5_put 13 = .ok (.iastore, 1) := by decide +kernel
theorem dX5_put_14 : decode cX5_put 14 = .ok (.return_, 1) := by decide +kernel
theorem dX6_init_0 : decode cX6_init 0 = .ok (.aload_n 0, 1) := by decide +kernel
theorem dX6_init_1 : decode cX6_init 1 = .ok (.invokespecial 1, 3) := by decide +kernel
theorem dX6_init_4 : decode cX6_init 4 = .ok (.aload_n 0, 1) := by decide +kernel
theorem dX6_init_5 : decode cX6_init 5 = .ok (.iconst 4, 1) := by decide +kernel
theorem dX6_init_6 : decode cX6_init 6 = .ok (.newarray .int, 2) := by decide +kernel
theorem dX6_init_8 : decode cX6_init 8 = .ok (.putfield 9, 3) := by decide +kernel
theorem dX6_init_11 : decode cX6_init 11 = .ok (.aload_n 0, 1) := by decide +kernel
theorem dX6_init_12 : decode cX6_init 12 = .ok (.iconst 4, 1) := by decide +kernel
theorem dX6_init_13 : decode cX6_init 13 = .ok (.newarray .int, 2) := by decide +kernel
theorem dX6_init_15 : decode cX6_init 15 = .ok (.putfield 13, 3) := by decide +kernel
theorem dX6_init_18 : decode cX6_init 18 = .ok (.aload_n 0, 1) := by decide +kernel
theorem dX6_init_19 : decode cX6_init 19 = .ok (.iconst 4, 1) := by decide +kernel
theorem dX6_init_20 : decode cX6_init 20 = .ok (.newarray .int, 2) := by decide +kernel
theorem dX6_init_22 : decode cX6_init 22 = .ok (.putfield 16, 3) := by decide +kernel
theorem dX6_init_25 : decode cX6_init 25 = .ok (.aload_n 0, 1) := by decide +kernel
theorem dX6_init_26 : decode cX6_init 26 = .ok (.iconst 4, 1) := by decide +kernel
theorem dX6_init_27 : decode cX6_init 27 = .ok (.newarray .int, 2) := by decide +kernel
theorem dX6_init_29 : decode cX6_init 29 = .ok (.putfield 19, 3) := by decide +kernel
theorem dX6_init_32 : decode cX6_init 32 = .ok (.aload_n 0, 1) := by decide +kernel
theorem dX6_init_33 : decode cX6_init 33 = .ok (.bipush 28, 2) := by decide +kernel
theorem dX6_init_35 : decode cX6_init 35 = .ok (.newarray .int, 2) := by decide +kernel
theorem dX6_init_37 : decode cX6_init 37 = .ok (.putfield 22, 3) := by decide +kernel
theorem dX6_init_40 : decode cX6_init 40 = .ok (.aload_n 0, 1) := by decide +kernel
theorem dX6_init_41 : decode cX6_init 41 = .ok (.new 25, 3) := by decide +kernel
theorem dX6_init_44 : decode cX6_init 44 = .ok (.dup, 1) := by decide +kernel
theorem dX6_init_45 : decode cX6_init 45 = .ok (.aload_n 0, 1) := by decide +kernel
theorem dX6_init_46 : decode cX6_init 46 = .ok (.invokespecial 27, 3) := by decide +kernel
theorem dX6_init_49 : decode cX6_init 49 = .ok (.putfield 30, 3) := by decide +kernel
theorem dX6_init_52 : decode cX6_init 52 = .ok (.aload_n 0, 1) := by decide +kernel
theorem dX6_init_53 : decode cX6_init 53 = .ok (.new 25, 3) := by decide +kernel
theorem dX6_init_56 : decode cX6_init 56 = .ok (.dup, 1) := by decide +kernel
theorem dX6_init_57 : decode cX6_init 57 = .ok (.aload_n 0, 1) := by decide +kernel
theorem dX6_init_58 : decode cX6_init 58 = .ok (.invokespecial 27, 3) := by decide +kernel
theorem dX6_init_61 : decode cX6_init 61 = .ok (.putfield 34, 3) := by decide +kernel
theorem dX6_init_64 : decode cX6_init 64 = .ok (.iconst 0, 1) := by decide +kernel
theorem dX6_init_65 : decode cX6_init 65 = .ok (.istore_n 1, 1) := by decide +kernel
theorem dX6_init_66 : decode cX6_init 66 = .ok (.iload_n 1, 1) := by decide +kernel
theorem dX6_init_67 : decode cX6_init 67 = .ok (.bipush 40, 2) := by decide +kernel
theorem dX6_init_69 : decode cX6_init 69 = .ok (.if_icmp .ge 19, 3) := by decide +kernel
theorem dX6_init_72 : decode cX6_init 72 = .ok (.aload_n 0, 1) := by decide +kernel
theorem dX6_init_73 : decode cX6_init 73 = .ok (.getfield 30, 3) := by decide +kernel
theorem dX6_init_76 : decode cX6_init 76 = .ok (.getfield 37, 3) := by decide +kernel
theorem dX6_init_79 : decode cX6_init 79 = .ok (.iload_n 1, 1) := by decide +kernel
theorem dX6_init_80 : decode cX6_init 80 = .ok (.iconst (-1), 1) := by decide +kernel
theorem dX6_init_81 : decode cX6_init 81 = .ok (.iastore, 1) := by decide +kernel
theorem dX6_init_82 : decode cX6_init 82 = .ok (.iinc 1 1, 3) := by decide +kernel
theorem dX6_init_85 : decode cX6_init 85 = .ok (.goto (-19), 3) := by decide +kernel
theorem dX6_init_88 : decode cX6_init 88 = .ok (.return_, 1) := by decide +kernel
theorem dX6_thrown_0 : decode cX6_thrown 0 = .ok (.aload_n 0, 1) := by decide +kernel
theorem dX6_thrown_1 : decode cX6_thrown 1 = .ok (.getfield 40, 3) := by decide +kernel
theorem dX6_thrown_4 : decode cX6_thrown 4 = .ok (.ireturn, 1) := by decide +kernel
theorem dX6_no_0 : decode cX6_no 0 = .ok (.aload_n 0, 1) := by decide +kernel
theorem dX6_no_1 : decode cX6_no 1 = .ok (.iload_n 1, 1) := by decide +kernel
theorem dX6_no_2 : decode cX6_no 2 = .ok (.putfield 40, 3) := by decide +kernel
theorem dX6_no_5 : decode cX6_no 5 = .ok (.iconst 0, 1) := by decide +kernel
theorem dX6_no_6 : decode cX6_no 6 = .ok (.ireturn, 1) := by decide +kernel
theorem dX6_isIn_0 : decode cX6_isIn 0 = .ok (.iload_n 0, 1) := by decide +kernel
theorem dX6_isIn_1 : decode cX6_isIn 1 = .ok (.iload_n 1, 1) := by decide +kernel
theorem dX6_isIn_2 : decode cX6_isIn 2 = .ok (.if_icmp .lt 12, 3) := by decide +kernel
theorem dX6_isIn_5 : decode cX6_isIn 5 = .ok (.iload_n 0, 1) := by decide +kernel
theorem dX6_isIn_6 : decode cX6_isIn 6 = .ok (.iload_n 2, 1) := by decide +kernel
theorem dX6_isIn_7 : decode cX6_isIn 7 = .ok (.if_icmp .gt 7, 3) := by decide +kernel
theorem dX6_isIn_10 : decode cX6_isIn 10 = .ok (.iconst 1, 1) := by decide +kernel
theorem dX6_isIn_11 : decode cX6_isIn 11 = .ok (.goto 4, 3) := by decide +kernel
theorem dX6_isIn_14 : decode cX6_isIn 14 = .ok (.iconst 0, 1) := by decide +kernel
theorem dX6_isIn_15 : decode cX6_isIn 15 = .ok (.ireturn, 1) := by decide +kernel
theorem dX6_isCellar_0 : decode cX6_isCellar 0 = .ok (.iload_n 1, 1) := by decide +kernel
theorem dX6_isCellar_1 : decode cX6_isCellar 1 = .ok (.iconst 0, 1) := by decide +kernel
theorem dX6_isCellar_2 : decode cX6_isCellar 2 = .ok (.aload_n 0, 1) := by decide +kernel
theorem dX6_isCellar_3 : decode cX6_isCellar 3 = .ok (.getfield 44, 3) := by decide +kernel
theorem dX6_isCellar_6 : decode cX6_isCellar 6 = .ok (.iconst 1, 1) := by decide +kernel
theorem dX6_isCellar_7 : decode cX6_isCellar 7 = .ok (.isub, 1) := by decide +kernel
theorem dX6_isCellar_8 : decode cX6_isCellar 8 = .ok (.invokestatic 47, 3) := by decide +kernel
theorem dX6_isCellar_11 : decode cX6_isCellar 11 = .ok (.ireturn, 1) := by decide +kernel
theorem dX6_isPlace_0 : decode cX6_isPlace 0 = .ok (.iload_n 0, 1) := by decide +kernel
theorem dX6_isPlace_1 : decode cX6_isPlace 1 = .ok (.iconst 0, 1) := by decide +kernel
theorem dX6_isPlace_2 : decode cX6_isPlace 2 = .ok (.bipush 9, 2) := by decide +kernel
theorem dX6_isPlace_4 : decode cX6_isPlace 4 = .ok (.invokestatic 47, 3) := by decide +kernel
theorem dX6_isPlace_7 : decode cX6_isPlace 7 = .ok (.ireturn, 1) := by decide +kernel
theorem dX6_isWheel_0 : decode cX6_isWheel 0 = .ok (.iload_n 1, 1) := by decide +kernel
theorem dX6_isWheel_1 : decode cX6_isWheel 1 = .ok (.iconst 0, 1) := by decide +kernel
theorem dX6_isWheel_2 : decode cX6_isWheel 2 = .ok (.aload_n 0, 1) := by decide +kernel
theorem dX6_isWheel_3 : decode cX6_isWheel 3 = .ok (.getfield 51, 3) := by decide +kernel
theorem dX6_isWheel_6 : decode cX6_isWheel 6 = .ok (.iconst 1, 1) := by decide +kernel
theorem dX6_isWheel_7 : decode cX6_isWheel 7 = .ok (.isub, 1) := by decide +kernel
theorem dX6_isWheel_8 : decode cX6_isWheel 8 = .ok (.invokestatic 47, 3) := by decide +kernel
theorem dX6_isWheel_11 : decode cX6_isWheel 11 = .ok (.ireturn, 1) := by decide +kernel
theorem dX6_isMonk_0 : decode cX6_isMonk 0 = .ok (.iload_n 1, 1) := by decide +kernel
theorem dX6_isMonk_1 : decode cX6_isMonk 1 = .ok (.iconst 0, 1) := by decide +kernel
theorem dX6_isMonk_2 : decode cX6_isMonk 2 = .ok (.aload_n 0, 1) := by decide +kernel
theorem dX6_isMonk_3 : decode cX6_isMonk 3 = .ok (.getfield 54, 3) := by decide +kernel
theorem dX6_isMonk_6 : decode cX6_isMonk 6 = .ok (.iconst 1, 1) := by decide +kernel
theorem dX6_isMonk_7 : decode cX6_isMonk 7 = .ok (.isub, 1) := by decide +kernel
theorem dX6_isMonk_8 : decode cX6_isMonk 8 = .ok (.invokestatic 47, 3) := by decide +kernel
theorem dX6_isMonk_11 : decode cX6_isMonk 11 = .ok (.ireturn, 1) := by decide +kernel
theorem dX6_isAir_0 : decode cX6_isAir 0 = .ok (.iload_n 0, 1) := by decide +kernel
theorem dX6_isAir_1 : decode cX6_isAir 1 = .ok (.iconst 0, 1) := by decide +kernel
theorem dX6_isAir_2 : decode cX6_isAir 2 = .ok (.bipush 9, 2) := by decide +kernel
theorem dX6_isAir_4 : decode cX6_isAir 4 = .ok (.invokestatic 47, 3) := by decide +kernel
theorem dX6_isAir_7 : decode cX6_isAir 7 = .ok (.ifCond .eq 17, 3) := by decide +kernel
theorem dX6_isAir_10 : decode cX6_isAir 10 = .ok (.iload_n 1, 1) := by decide +kernel
theorem dX6_isAir_11 : decode cX6_isAir 11 = .ok (.iconst 0, 1) := by decide +kernel
theorem dX6_isAir_12 : decode cX6_isAir 12 = .ok (.bipush 9, 2) := by decide +kernel
theorem dX6_isAir_14 : decode cX6_isAir 14 = .ok (.invokestatic 47, 3) := by decide +kernel
theorem dX6_isAir_17 : decode cX6_isAir 17 = .ok (.ifCond .eq 7, 3) := by decide +kernel
theorem dX6_isAir_20 : decode cX6_isAir 20 = .ok (.iconst 1, 1) := by decide +kernel
theorem dX6_isAir_21 : decode cX6_isAir 21 = .ok (.goto 4, 3) := by decide +kernel
theorem dX6_isAir_24 : decode cX6_isAir 24 = .ok (.iconst 0, 1) := by decide +kernel
theorem dX6_isAir_25 : decode cX6_isAir 25 = .ok (.ireturn, 1) := by decide +kernel
theorem dX6_build_0 : decode cX6_build 0 = .ok (.aload_n 0, 1) := by decide +kernel
theorem dX6_build_1 : decode cX6_build 1 = .ok (.iconst 0, 1) := by decide +kernel
theorem dX6_build_2 : decode cX6_build 2 = .ok (.putfield 40, 3) := by decide +kernel
theorem dX6_build_5 : decode cX6_build 5 = .ok (.iload_n 1, 1) := by decide +kernel
theorem dX6_build_6 : decode cX6_build 6 = .ok (.iload_n 2, 1) := by decide +kernel
theorem dX6_build_7 : decode cX6_build 7 = .ok (.invokestatic 57, 3) := by decide +kernel
theorem dX6_build_10 : decode cX6_build 10 = .ok (.ifCond .ne 9, 3) := by decide +kernel
theorem dX6_build_13 : decode cX6_build 13 = .ok (.aload_n 0, 1) := by decide +kernel
theorem dX6_build_14 : decode cX6_build 14 = .ok (.iconst 1, 1) := by decide +kernel
theorem dX6_build_15 : decode cX6_build 15 = .ok (.invokevirtual 61, 3) := by decide +kernel
theorem dX6_build_18 : decode cX6_build 18 = .ok (.ireturn, 1) := by decide +kernel
theorem dX6_build_19 : decode cX6_build 19 = .ok (.aload_n 0, 1) := by decide +kernel
theorem dX6_build_20 : decode cX6_build 20 = .ok (.getfield 44, 3) := by decide +kernel
theorem dX6_build_23 : decode cX6_build 23 = .ok (.iconst 4, 1) := by decide +kernel
theorem dX6_build_24 : decode cX6_build 24 = .ok (.if_icmp .ne 9, 3) := by decide +kernel
theorem dX6_build_27 : decode cX6_build 27 = .ok (.aload_n 0, 1) := by decide +kernel
theorem dX6_build_28 : decode cX6_build 28 = .ok (.iconst 2, 1) := by decide +kernel
theorem dX6_build_29 : decode cX6_build 29 = .ok (.invokevirtual 61, 3) := by decide +kernel
theorem dX6_build_32 : decode cX6_build 32 = .ok (.ireturn, 1) := by decide +kernel
theorem dX6_build_33 : decode cX6_build 33 = .ok (.aload_n 0, 1) := by decide +kernel
theorem dX6_build_34 : decode cX6_build 34 = .ok (.getfield 9, 3) := by decide +kernel
theorem dX6_build_37 : decode cX6_build 37 = .ok (.aload_n 0, 1) := by decide +kernel
theorem dX6_build_38 : decode cX6_build 38 = .ok (.getfield 44, 3) := by decide +kernel
theorem dX6_build_41 : decode cX6_build 41 = .ok (.iload_n 1, 1) := by decide +kernel
theorem dX6_build_42 : decode cX6_build 42 = .ok (.iastore, 1) := by decide +kernel
theorem dX6_build_43 : decode cX6_build 43 = .ok (.aload_n 0, 1) := by decide +kernel
theorem dX6_build_44 : decode cX6_build 44 = .ok (.getfield 13, 3) := by decide +kernel
theorem dX6_build_47 : decode cX6_build 47 = .ok (.aload_n 0, 1) := by decide +kernel
theorem dX6_build_48 : decode cX6_build 48 = .ok (.getfield 44, 3) := by decide +kernel
theorem dX6_build_51 : decode cX6_build 51 = .ok (.iload_n 2, 1) := by decide +kernel
theorem dX6_build_52 : decode cX6_build 52 = .ok (.iastore, 1) := by decide +kernel
theorem dX6_build_53 : decode cX6_build 53 = .ok (.aload_n 0, 1) := by decide +kernel
theorem dX6_build_54 : decode cX6_build 54 = .ok (.dup, 1) := by decide +kernel
theorem dX6_build_55 : decode cX6_build 55 = .ok (.getfield 44, 3) := by decide +kernel
theorem dX6_build_58 : decode cX6_build 58 = .ok (.iconst 1, 1) := by decide +kernel
theorem dX6_build_59 : decode cX6_build 59 = .ok (.iadd, 1) := by decide +kernel
theorem dX6_build_60 : decode cX6_build 60 = .ok (.putfield 44, 3) := by decide +kernel
theorem dX6_build_63 : decode cX6_build 63 = .ok (.aload_n 0, 1) := by decide +kernel
theorem dX6_build_64 : decode cX6_build 64 = .ok (.getfield 44, 3) := by decide +kernel
theorem dX6_build_67 : decode cX6_build 67 = .ok (.iconst 1, 1) := by decide +kernel
theorem dX6_build_68 : decode cX6_build 68 = .ok (.isub, 1) := by decide +kernel
theorem dX6_build_69 : decode cX6_build 69 = .ok (.ireturn, 1) := by decide +kernel
theorem dX6_air_0 : decode cX6_air 0 = .ok (.aload_n 0, 1) := by decide +kernel
theorem dX6_air_1 : decode cX6_air 1 = .ok (.iconst 0, 1) := by decide +kernel
theorem dX6_air_2 : decode cX6_air 2 = .ok (.putfield 40, 3) := by decide +kernel
theorem dX6_air_5 : decode cX6_air 5 = .ok (.aload_n 0, 1) := by decide +kernel
theorem dX6_air_6 : decode cX6_air 6 = .ok (.iload_n 1, 1) := by decide +kernel
theorem dX6_air_7 : decode cX6_air 7 = .ok (.invokevirtual 65, 3) := by decide +kernel
theorem dX6_air_10 : decode cX6_air 10 = .ok (.ifCond .ne 9, 3) := by decide +kernel
theorem dX6_air_13 : decode cX6_air 13 = .ok (.aload_n 0, 1) := by decide +kernel
theorem dX6_air_14 : decode cX6_air 14 = .ok (.iconst 1, 1) := by decide +kernel
theorem dX6_air_15 : decode cX6_air 15 = .ok (.invokevirtual 61, 3) := by decide +kernel
theorem dX6_air_18 : decode cX6_air 18 = .ok (.ireturn, 1) := by decide +kernel
theorem dX6_air_19 : decode cX6_air 19 = .ok (.iload_n 2, 1) := by decide +kernel
theorem dX6_air_20 : decode cX6_air 20 = .ok (.iload_n 3, 1) := by decide +kernel
theorem dX6_air_21 : decode cX6_air 21 = .ok (.invokestatic 57, 3) := by decide +kernel
theorem dX6_air_24 : decode cX6_air 24 = .ok (.ifCond .ne 9, 3) := by decide +kernel
theorem dX6_air_27 : decode cX6_air 27 = .ok (.aload_n 0, 1) := by decide +kernel
theorem dX6_air_28 : decode cX6_air 28 = .ok (.iconst 2, 1) := by decide +kernel
theorem dX6_air_29 : decode cX6_air 29 = .ok (.invokevirtual 61, 3) := by decide +kernel
theorem dX6_air_32 : decode cX6_air 32 = .ok (.ireturn, 1) := by decide +kernel
theorem dX6_air_33 : decode cX6_air 33 = .ok (.bipush 10, 2) := by decide +kernel
theorem dX6_air_35 : decode cX6_air 35 = .ok (.aload_n 0, 1) := by decide +kernel
theorem dX6_air_36 : decode cX6_air 36 = .ok (.getfield 9, 3) := by decide +kernel
theorem dX6_air_39 : decode cX6_air 39 = .ok (.iload_n 1, 1) := by decide +kernel
theorem dX6_air_40 : decode cX6_air 40 = .ok (.iaload, 1) := by decide +kernel
theorem dX6_air_41 : decode cX6_air 41 = .ok (.imul, 1) := by decide +kernel
theorem dX6_air_42 : decode cX6_air 42 = .ok (.aload_n 0, 1) := by decide +kernel
theorem dX6_air_43 : decode cX6_air 43 = .ok (.getfield 13, 3) := by decide +kernel
theorem dX6_air_46 : decode cX6_air 46 = .ok (.iload_n 1, 1) := by decide +kernel
theorem dX6_air_47 : decode cX6_air 47 = .ok (.iaload, 1) := by decide +kernel
theorem dX6_air_48 : decode cX6_air 48 = .ok (.iadd, 1) := by decide +kernel
theorem dX6_air_49 : decode cX6_air 49 = .ok (.istore 4, 2) := by decide +kernel
theorem dX6_air_51 : decode cX6_air 51 = .ok (.aload_n 0, 1) := by decide +kernel
theorem dX6_air_52 : decode cX6_air 52 = .ok (.getfield 9, 3) := by decide +kernel
theorem dX6_air_55 : decode cX6_air 55 = .ok (.iload_n 1, 1) := by decide +kernel
theorem dX6_air_56 : decode cX6_air 56 = .ok (.iload_n 2, 1) := by decide +kernel
theorem dX6_air_57 : decode cX6_air 57 = .ok (.iastore, 1) := by decide +kernel
theorem dX6_air_58 : decode cX6_air 58 = .ok (.aload_n 0, 1) := by decide +kernel
theorem dX6_air_59 : decode cX6_air 59 = .ok (.getfield 13, 3) := by decide +kernel
theorem dX6_air_62 : decode cX6_air 62 = .ok (.iload_n 1, 1) := by decide +kernel
theorem dX6_air_63 : decode cX6_air 63 = .ok (.iload_n 3, 1) := by decide +kernel
theorem dX6_air_64 : decode cX6_air 64 = .ok (.iastore, 1) := by decide +kernel
theorem dX6_air_65 : decode cX6_air 65 = .ok (.iload 4, 2) := by decide +kernel
theorem dX6_air_67 : decode cX6_air 67 = .ok (.ireturn, 1) := by decide +kernel
theorem dX6_make_0 : decode cX6_make 0 = .ok (.aload_n 0, 1) := by decide +kernel
theorem dX6_make_1 : decode cX6_make 1 = .ok (.iconst 0, 1) := by decide +kernel
theorem dX6_make_2 : decode cX6_make 2 = .ok (.putfield 40, 3) := by decide +kernel
theorem dX6_make_5 : decode cX6_make 5 = .ok (.aload_n 0, 1) := by decide +kernel
theorem dX6_make_6 : decode cX6_make 6 = .ok (.iload_n 1, 1) := by decide +kernel
theorem dX6_make_7 : decode cX6_make 7 = .ok (.invokevirtual 65, 3) := by decide +kernel
theorem dX6_make_10 : decode cX6_make 10 = .ok (.ifCond .eq 10, 3) := by decide +kernel
theorem dX6_make_13 : decode cX6_make 13 = .ok (.iload_n 2, 1) := by decide +kernel
theorem dX6_make_14 : decode cX6_make 14 = .ok (.invokestatic 69, 3) := by decide +kernel
theorem dX6_make_17 : decode cX6_make 17 = .ok (.ifCond .ne 9, 3) := by decide +kernel
theorem dX6_make_20 : decode cX6_make 20 = .ok (.aload_n 0, 1) := by decide +kernel
theorem dX6_make_21 : decode cX6_make 21 = .ok (.iconst 1, 1) := by decide +kernel
theorem dX6_make_22 : decode cX6_make 22 = .ok (.invokevirtual 61, 3) := by decide +kernel
theorem dX6_make_25 : decode cX6_make 25 = .ok (.ireturn, 1) := by decide +kernel
theorem dX6_make_26 : decode cX6_make 26 = .ok (.aload_n 0, 1) := by decide +kernel
theorem dX6_make_27 : decode cX6_make 27 = .ok (.getfield 51, 3) := by decide +kernel
theorem dX6_make_30 : decode cX6_make 30 = .ok (.bipush 24, 2) := by decide +kernel
theorem dX6_make_32 : decode cX6_make 32 = .ok (.if_icmp .eq 21, 3) := by decide +kernel
theorem dX6_make_35 : decode cX6_make 35 = .ok (.aload_n 0, 1) := by decide +kernel
theorem dX6_make_36 : decode cX6_make 36 = .ok (.getfield 30, 3) := by decide +kernel
theorem dX6_make_39 : decode cX6_make 39 = .ok (.getfield 37, 3) := by decide +kernel
theorem dX6_make_42 : decode cX6_make 42 = .ok (.bipush 10, 2) := by decide +kernel
theorem dX6_make_44 : decode cX6_make 44 = .ok (.iload_n 1, 1) := by decide +kernel
theorem dX6_make_45 : decode cX6_make 45 = .ok (.imul, 1) := by decide +kernel
theorem dX6_make_46 : decode cX6_make 46 = .ok (.iload_n 2, 1) := by decide +kernel
theorem dX6_make_47 : decode cX6_make 47 = .ok (.iadd, 1) := by decide +kernel
theorem dX6_make_48 : decode cX6_make 48 = .ok (.iaload, 1) := by decide +kernel
theorem dX6_make_49 : decode cX6_make 49 = .ok (.iconst (-1), 1) := by decide +kernel
theorem dX6_make_50 : decode cX6_make 50 = .ok (.if_icmp .eq 9, 3) := by decide +kernel
theorem dX6_make_53 : decode cX6_make 53 = .ok (.aload_n 0, 1) := by decide +kernel
theorem dX6_make_54 : decode cX6_make 54 = .ok (.iconst 2, 1) := by decide +kernel
theorem dX6_make_55 : decode cX6_make 55 = .ok (.invokevirtual 61, 3) := by decide +kernel
theorem dX6_make_58 : decode cX6_make 58 = .ok (.ireturn, 1) := by decide +kernel
theorem dX6_make_59 : decode cX6_make 59 = .ok (.aload_n 0, 1) := by decide +kernel
theorem dX6_make_60 : decode cX6_make 60 = .ok (.getfield 30, 3) := by decide +kernel
theorem dX6_make_63 : decode cX6_make 63 = .ok (.aload_n 0, 1) := by decide +kernel
theorem dX6_make_64 : decode cX6_make 64 = .ok (.getfield 51, 3) := by decide +kernel
theorem dX6_make_67 : decode cX6_make 67 = .ok (.bipush 10, 2) := by decide +kernel
theorem dX6_make_69 : decode cX6_make 69 = .ok (.iload_n 1, 1) := by decide +kernel
theorem dX6_make_70 : decode cX6_make 70 = .ok (.imul, 1) := by decide +kernel
theorem dX6_make_71 : decode cX6_make 71 = .ok (.iload_n 2, 1) := by decide +kernel
theorem dX6_make_72 : decode cX6_make 72 = .ok (.iadd, 1) := by decide +kernel
theorem dX6_make_73 : decode cX6_make 73 = .ok (.invokevirtual 72, 3) := by decide +kernel
theorem dX6_make_76 : decode cX6_make 76 = .ok (.aload_n 0, 1) := by decide +kernel
theorem dX6_make_77 : decode cX6_make 77 = .ok (.getfield 30, 3) := by decide +kernel
theorem dX6_make_80 : decode cX6_make 80 = .ok (.getfield 76, 3) := by decide +kernel
theorem dX6_make_83 : decode cX6_make 83 = .ok (.aload_n 0, 1) := by decide +kernel
theorem dX6_make_84 : decode cX6_make 84 = .ok (.getfield 51, 3) := by decide +kernel
theorem dX6_make_87 : decode cX6_make 87 = .ok (.bipush 80, 2) := by decide +kernel
theorem dX6_make_89 : decode cX6_make 89 = .ok (.iastore, 1) := by decide +kernel
theorem dX6_make_90 : decode cX6_make 90 = .ok (.aload_n 0, 1) := by decide +kernel
theorem dX6_make_91 : decode cX6_make 91 = .ok (.getfield 30, 3) := by decide +kernel
theorem dX6_make_94 : decode cX6_make 94 = .ok (.getfield 79, 3) := by decide +kernel
theorem dX6_make_97 : decode cX6_make 97 = .ok (.aload_n 0, 1) := by decide +kernel
theorem dX6_make_98 : decode cX6_make 98 = .ok (.getfield 51, 3) := by decide +kernel
theorem dX6_make_101 : decode cX6_make 101 = .ok (.iconst (-1), 1) := by decide +kernel
theorem dX6_make_102 : decode cX6_make 102 = .ok (.iastore, 1) := by decide +kernel
theorem dX6_make_103 : decode cX6_make 103 = .ok (.aload_n 0, 1) := by decide +kernel
theorem dX6_make_104 : decode cX6_make 104 = .ok (.dup, 1) := by decide +kernel
theorem dX6_make_105 : decode cX6_make 105 = .ok (.getfield 51, 3) := by decide +kernel
theorem dX6_make_108 : decode cX6_make 108 = .ok (.iconst 1, 1) := by decide +kernel
theorem dX6_make_109 : decode cX6_make 109 = .ok (.iadd, 1) := by decide +kernel
theorem dX6_make_110 : decode cX6_make 110 = .ok (.putfield 51, 3) := by decide +kernel
theorem dX6_make_113 : decode cX6_make 113 = .ok (.aload_n 0, 1) := by decide +kernel
theorem dX6_make_114 : decode cX6_make 114 = .ok (.getfield 51, 3) := by decide +kernel
theorem dX6_make_117 : decode cX6_make 117 = .ok (.iconst 1, 1) := by decide +kernel
theorem dX6_make_118 : decode cX6_make 118 = .ok (.isub, 1) := by decide +kernel
theorem dX6_make_119 : decode cX6_make 119 = .ok (.ireturn, 1) := by decide +kernel
theorem dX6_carry_0 : decode cX6_carry 0 = .ok (.aload_n 0, 1) := by decide +kernel
theorem dX6_carry_1 : decode cX6_carry 1 = .ok (.iconst 0, 1) := by decide +kernel
theorem dX6_carry_2 : decode cX6_carry 2 = .ok (.putfield 40, 3) := by decide +kernel
theorem dX6_carry_5 : decode cX6_carry 5 = .ok (.aload_n 0, 1) := by decide +kernel
theorem dX6_carry_6 : decode cX6_carry 6 = .ok (.iload_n 1, 1) := by decide +kernel
theorem dX6_carry_7 : decode cX6_carry 7 = .ok (.invokevirtual 82, 3) := by decide +kernel
theorem dX6_carry_10 : decode cX6_carry 10 = .ok (.ifCond .eq 18, 3) := by decide +kernel
theorem dX6_carry_13 : decode cX6_carry 13 = .ok (.aload_n 0, 1) := by decide +kernel
theorem dX6_carry_14 : decode cX6_carry 14 = .ok (.iload_n 2, 1) := by decide +kernel
theorem dX6_carry_15 : decode cX6_carry 15 = .ok (.invokevirtual 65, 3) := by decide +kernel
theorem dX6_carry_18 : decode cX6_carry 18 = .ok (.ifCond .eq 10, 3) := by decide +kernel
theorem dX6_carry_21 : decode cX6_carry 21 = .ok (.iload_n 3, 1) := by decide +kernel
theorem dX6_carry_22 : decode cX6_carry 22 = .ok (.invokestatic 69, 3) := by decide +kernel
theorem dX6_carry_25 : decode cX6_carry 25 = .ok (.ifCond .ne 9, 3) := by decide +kernel
theorem dX6_carry_28 : decode cX6_carry 28 = .ok (.aload_n 0, 1) := by decide +kernel
theorem dX6_carry_29 : decode cX6_carry 29 = .ok (.iconst 1, 1) := by decide +kernel
theorem dX6_carry_30 : decode cX6_carry 30 = .ok (.invokevirtual 61, 3) := by decide +kernel
theorem dX6_carry_33 : decode cX6_carry 33 = .ok (.ireturn, 1) := by decide +kernel
theorem dX6_carry_34 : decode cX6_carry 34 = .ok (.aload_n 0, 1) := by decide +kernel
theorem dX6_carry_35 : decode cX6_carry 35 = .ok (.getfield 30, 3) := by decide +kernel
theorem dX6_carry_38 : decode cX6_carry 38 = .ok (.getfield 85, 3) := by decide +kernel
theorem dX6_carry_41 : decode cX6_carry 41 = .ok (.iload_n 1, 1) := by decide +kernel
theorem dX6_carry_42 : decode cX6_carry 42 = .ok (.iaload, 1) := by decide +kernel
theorem dX6_carry_43 : decode cX6_carry 43 = .ok (.ifCond .ne 21, 3) := by decide +kernel
theorem dX6_carry_46 : decode cX6_carry 46 = .ok (.aload_n 0, 1) := by decide +kernel
theorem dX6_carry_47 : decode cX6_carry 47 = .ok (.getfield 30, 3) := by decide +kernel
theorem dX6_carry_50 : decode cX6_carry 50 = .ok (.getfield 37, 3) := by decide +kernel
theorem dX6_carry_53 : decode cX6_carry 53 = .ok (.bipush 10, 2) := by decide +kernel
theorem dX6_carry_55 : decode cX6_carry 55 = .ok (.iload_n 2, 1) := by decide +kernel
theorem dX6_carry_56 : decode cX6_carry 56 = .ok (.imul, 1) := by decide +kernel
theorem dX6_carry_57 : decode cX6_carry 57 = .ok (.iload_n 3, 1) := by decide +kernel
theorem dX6_carry_58 : decode cX6_carry 58 = .ok (.iadd, 1) := by decide +kernel
theorem dX6_carry_59 : decode cX6_carry 59 = .ok (.iaload, 1) := by decide +kernel
theorem dX6_carry_60 : decode cX6_carry 60 = .ok (.iconst (-1), 1) := by decide +kernel
theorem dX6_carry_61 : decode cX6_carry 61 = .ok (.if_icmp .eq 9, 3) := by decide +kernel
theorem dX6_carry_64 : decode cX6_carry 64 = .ok (.aload_n 0, 1) := by decide +kernel
theorem dX6_carry_65 : decode cX6_carry 65 = .ok (.iconst 2, 1) := by decide +kernel
theorem dX6_carry_66 : decode cX6_carry 66 = .ok (.invokevirtual 61, 3) := by decide +kernel
theorem dX6_carry_69 : decode cX6_carry 69 = .ok (.ireturn, 1) := by decide +kernel
theorem dX6_carry_70 : decode cX6_carry 70 = .ok (.aload_n 0, 1) := by decide +kernel
theorem dX6_carry_71 : decode cX6_carry 71 = .ok (.getfield 30, 3) := by decide +kernel
theorem dX6_carry_74 : decode cX6_carry 74 = .ok (.getfield 88, 3) := by decide +kernel
theorem dX6_carry_77 : decode cX6_carry 77 = .ok (.iload_n 1, 1) := by decide +kernel
theorem dX6_carry_78 : decode cX6_carry 78 = .ok (.iaload, 1) := by decide +kernel
theorem dX6_carry_79 : decode cX6_carry 79 = .ok (.istore 4, 2) := by decide +kernel
theorem dX6_carry_81 : decode cX6_carry 81 = .ok (.aload_n 0, 1) := by decide +kernel
theorem dX6_carry_82 : decode cX6_carry 82 = .ok (.getfield 30, 3) := by decide +kernel
theorem dX6_carry_85 : decode cX6_carry 85 = .ok (.getfield 37, 3) := by decide +kernel
theorem dX6_carry_88 : decode cX6_carry 88 = .ok (.iload 4, 2) := by decide +kernel
theorem dX6_carry_90 : decode cX6_carry 90 = .ok (.iconst (-1), 1) := by decide +kernel
theorem dX6_carry_91 : decode cX6_carry 91 = .ok (.iastore, 1) := by decide +kernel
theorem dX6_carry_92 : decode cX6_carry 92 = .ok (.aload_n 0, 1) := by decide +kernel
theorem dX6_carry_93 : decode cX6_carry 93 = .ok (.getfield 30, 3) := by decide +kernel
theorem dX6_carry_96 : decode cX6_carry 96 = .ok (.iload_n 1, 1) := by decide +kernel
theorem dX6_carry_97 : decode cX6_carry 97 = .ok (.bipush 10, 2) := by decide +kernel
theorem dX6_carry_99 : decode cX6_carry 99 = .ok (.iload_n 2, 1) := by decide +kernel
theorem dX6_carry_100 : decode cX6_carry 100 = .ok (.imul, 1) := by decide +kernel
theorem dX6_carry_101 : decode cX6_carry 101 = .ok (.iload_n 3, 1) := by decide +kernel
theorem dX6_carry_102 : decode cX6_carry 102 = .ok (.iadd, 1) := by decide +kernel
theorem dX6_carry_103 : decode cX6_carry 103 = .ok (.invokevirtual 72, 3) := by decide +kernel
theorem dX6_carry_106 : decode cX6_carry 106 = .ok (.iload 4, 2) := by decide +kernel
theorem dX6_carry_108 : decode cX6_carry 108 = .ok (.ireturn, 1) := by decide +kernel
theorem dX6_infect_0 : decode cX6_infect 0 = .ok (.aload_n 0, 1) := by decide +kernel
theorem dX6_infect_1 : decode cX6_infect 1 = .ok (.iconst 0, 1) := by decide +kernel
theorem dX6_infect_2 : decode cX6_infect 2 = .ok (.putfield 40, 3) := by decide +kernel
theorem dX6_infect_5 : decode cX6_infect 5 = .ok (.aload_n 0, 1) := by decide +kernel
theorem dX6_infect_6 : decode cX6_infect 6 = .ok (.iload_n 1, 1) := by decide +kernel
theorem dX6_infect_7 : decode cX6_infect 7 = .ok (.invokevirtual 82, 3) := by decide +kernel
theorem dX6_infect_10 : decode cX6_infect 10 = .ok (.ifCond .ne 9, 3) := by decide +kernel
theorem dX6_infect_13 : decode cX6_infect 13 = .ok (.aload_n 0, 1) := by decide +kernel
theorem dX6_infect_14 : decode cX6_infect 14 = .ok (.iconst 1, 1) := by decide +kernel
theorem dX6_infect_15 : decode cX6_infect 15 = .ok (.invokevirtual 61, 3) := by decide +kernel
theorem dX6_infect_18 : decode cX6_infect 18 = .ok (.ireturn, 1) := by decide +kernel
theorem dX6_infect_19 : decode cX6_infect 19 = .ok (.iload_n 2, 1) := by decide +kernel
theorem dX6_infect_20 : decode cX6_infect 20 = .ok (.iconst 0, 1) := by decide +kernel
theorem dX6_infect_21 : decode cX6_infect 21 = .ok (.iconst 3, 1) := by decide +kernel
theorem dX6_infect_22 : decode cX6_infect 22 = .ok (.invokestatic 47, 3) := by decide +kernel
theorem dX6_infect_25 : decode cX6_infect 25 = .ok (.ifCond .ne 9, 3) := by decide +kernel
theorem dX6_infect_28 : decode cX6_infect 28 = .ok (.aload_n 0, 1) := by decide +kernel
theorem dX6_infect_29 : decode cX6_infect 29 = .ok (.iconst 2, 1) := by decide +kernel
theorem dX6_infect_30 : decode cX6_infect 30 = .ok (.invokevirtual 61, 3) := by decide +kernel
theorem dX6_infect_33 : decode cX6_infect 33 = .ok (.ireturn, 1) := by decide +kernel
theorem dX6_infect_34 : decode cX6_infect 34 = .ok (.aload_n 0, 1) := by decide +kernel
theorem dX6_infect_35 : decode cX6_infect 35 = .ok (.getfield 30, 3) := by decide +kernel
theorem dX6_infect_38 : decode cX6_infect 38 = .ok (.getfield 85, 3) := by decide +kernel
theorem dX6_infect_41 : decode cX6_infect 41 = .ok (.iload_n 1, 1) := by decide +kernel
theorem dX6_infect_42 : decode cX6_infect 42 = .ok (.iaload, 1) := by decide +kernel
theorem dX6_infect_43 : decode cX6_infect 43 = .ok (.ifCond .eq 9, 3) := by decide +kernel
theorem dX6_infect_46 : decode cX6_infect 46 = .ok (.aload_n 0, 1) := by decide +kernel
theorem dX6_infect_47 : decode cX6_infect 47 = .ok (.iconst 3, 1) := by decide +kernel
theorem dX6_infect_48 : decode cX6_infect 48 = .ok (.invokevirtual 61, 3) := by decide +kernel
theorem dX6_infect_51 : decode cX6_infect 51 = .ok (.ireturn, 1) := by decide +kernel
theorem dX6_infect_52 : decode cX6_infect 52 = .ok (.aload_n 0, 1) := by decide +kernel
theorem dX6_infect_53 : decode cX6_infect 53 = .ok (.getfield 30, 3) := by decide +kernel
theorem dX6_infect_56 : decode cX6_infect 56 = .ok (.getfield 91, 3) := by decide +kernel
theorem dX6_infect_59 : decode cX6_infect 59 = .ok (.iload_n 1, 1) := by decide +kernel
theorem dX6_infect_60 : decode cX6_infect 60 = .ok (.iaload, 1) := by decide +kernel
theorem dX6_infect_61 : decode cX6_infect 61 = .ok (.istore_n 3, 1) := by decide +kernel
theorem dX6_infect_62 : decode cX6_infect 62 = .ok (.aload_n 0, 1) := by decide +kernel
theorem dX6_infect_63 : decode cX6_infect 63 = .ok (.getfield 30, 3) := by decide +kernel
theorem dX6_infect_66 : decode cX6_infect 66 = .ok (.iload_n 1, 1) := by decide +kernel
theorem dX6_infect_67 : decode cX6_infect 67 = .ok (.iload_n 2, 1) := by decide +kernel
theorem dX6_infect_68 : decode cX6_infect 68 = .ok (.iload_n 2, 1) := by decide +kernel
theorem dX6_infect_69 : decode cX6_infect 69 = .ok (.ifCond .le 7, 3) := by decide +kernel
theorem dX6_infect_72 : decode cX6_infect 72 = .ok (.iconst 1, 1) := by decide +kernel
theorem dX6_infect_73 : decode cX6_infect 73 = .ok (.goto 4, 3) := by decide +kernel
theorem dX6_infect_76 : decode cX6_infect 76 = .ok (.iconst 0, 1) := by decide +kernel
theorem dX6_infect_77 : decode cX6_infect 77 = .ok (.iconst (-1), 1) := by decide +kernel
theorem dX6_infect_78 : decode cX6_infect 78 = .ok (.invokevirtual 94, 3) := by decide +kernel
theorem dX6_infect_81 : decode cX6_infect 81 = .ok (.iload_n 3, 1) := by decide +kernel
theorem dX6_infect_82 : decode cX6_infect 82 = .ok (.ireturn, 1) := by decide +kernel
theorem dX6_sell_0 : decode cX6_sell 0 = .ok (.aload_n 0, 1) := by decide +kernel
theorem dX6_sell_1 : decode cX6_sell 1 = .ok (.iconst 0, 1) := by decide +kernel
theorem dX6_sell_2 : decode cX6_sell 2 = .ok (.putfield 40, 3) := by decide +kernel
theorem dX6_sell_5 : decode cX6_sell 5 = .ok (.aload_n 0, 1) := by decide +kernel
theorem dX6_sell_6 : decode cX6_sell 6 = .ok (.iload_n 1, 1) := by decide +kernel
theorem dX6_sell_7 : decode cX6_sell 7 = .ok (.invokevirtual 82, 3) := by decide +kernel
theorem dX6_sell_10 : decode cX6_sell 10 = .ok (.ifCond .ne 9, 3) := by decide +kernel
theorem dX6_sell_13 : decode cX6_sell 13 = .ok (.aload_n 0, 1) := by decide +kernel
theorem dX6_sell_14 : decode cX6_sell 14 = .ok (.iconst 1, 1) := by decide +kernel
theorem dX6_sell_15 : decode cX6_sell 15 = .ok (.invokevirtual 61, 3) := by decide +kernel
theorem dX6_sell_18 : decode cX6_sell 18 = .ok (.ireturn, 1) := by decide +kernel
theorem dX6_sell_19 : decode cX6_sell 19 = .ok (.aload_n 0, 1) := by decide +kernel
theorem dX6_sell_20 : decode cX6_sell 20 = .ok (.getfield 30, 3) := by decide +kernel
theorem dX6_sell_23 : decode cX6_sell 23 = .ok (.getfield 85, 3) := by decide +kernel
theorem dX6_sell_26 : decode cX6_sell 26 = .ok (.iload_n 1, 1) := by decide +kernel
theorem dX6_sell_27 : decode cX6_sell 27 = .ok (.iaload, 1) := by decide +kernel
theorem dX6_sell_28 : decode cX6_sell 28 = .ok (.ifCond .eq 9, 3) := by decide +kernel
theorem dX6_sell_31 : decode cX6_sell 31 = .ok (.aload_n 0, 1) := by decide +kernel
theorem dX6_sell_32 : decode cX6_sell 32 = .ok (.iconst 2, 1) := by decide +kernel
theorem dX6_sell_33 : decode cX6_sell 33 = .ok (.invokevirtual 61, 3) := by decide +kernel
theorem dX6_sell_36 : decode cX6_sell 36 = .ok (.ireturn, 1) := by decide +kernel
theorem dX6_sell_37 : decode cX6_sell 37 = .ok (.aload_n 0, 1) := by decide +kernel
theorem dX6_sell_38 : decode cX6_sell 38 = .ok (.getfield 30, 3) := by decide +kernel
theorem dX6_sell_41 : decode cX6_sell 41 = .ok (.iload_n 1, 1) := by decide +kernel
theorem dX6_sell_42 : decode cX6_sell 42 = .ok (.iconst 1, 1) := by decide +kernel
theorem dX6_sell_43 : decode cX6_sell 43 = .ok (.invokevirtual 98, 3) := by decide +kernel
theorem dX6_sell_46 : decode cX6_sell 46 = .ok (.aload_n 0, 1) := by decide +kernel
theorem dX6_sell_47 : decode cX6_sell 47 = .ok (.dup, 1) := by decide +kernel
theorem dX6_sell_48 : decode cX6_sell 48 = .ok (.getfield 101, 3) := by decide +kernel
theorem dX6_sell_51 : decode cX6_sell 51 = .ok (.aload_n 0, 1) := by decide +kernel
theorem dX6_sell_52 : decode cX6_sell 52 = .ok (.getfield 30, 3) := by decide +kernel
theorem dX6_sell_55 : decode cX6_sell 55 = .ok (.iload_n 1, 1) := by decide +kernel
theorem dX6_sell_56 : decode cX6_sell 56 = .ok (.invokevirtual 104, 3) := by decide +kernel
theorem dX6_sell_59 : decode cX6_sell 59 = .ok (.iadd, 1) := by decide +kernel
theorem dX6_sell_60 : decode cX6_sell 60 = .ok (.putfield 101, 3) := by decide +kernel
theorem dX6_sell_63 : decode cX6_sell 63 = .ok (.aload_n 0, 1) := by decide +kernel
theorem dX6_sell_64 : decode cX6_sell 64 = .ok (.getfield 30, 3) := by decide +kernel
theorem dX6_sell_67 : decode cX6_sell 67 = .ok (.iload_n 1, 1) := by decide +kernel
theorem dX6_sell_68 : decode cX6_sell 68 = .ok (.invokevirtual 104, 3) := by decide +kernel
theorem dX6_sell_71 : decode cX6_sell 71 = .ok (.ireturn, 1) := by decide +kernel
theorem dX6_hire_0 : decode cX6_hire 0 = .ok (.aload_n 0, 1) := by decide +kernel
theorem dX6_hire_1 : decode cX6_hire 1 = .ok (.iconst 0, 1) := by decide +kernel
theorem dX6_hire_2 : decode cX6_hire 2 = .ok (.putfield 40, 3) := by decide +kernel
theorem dX6_hire_5 : decode cX6_hire 5 = .ok (.aload_n 0, 1) := by decide +kernel
theorem dX6_hire_6 : decode cX6_hire 6 = .ok (.iload_n 1, 1) := by decide +kernel
theorem dX6_hire_7 : decode cX6_hire 7 = .ok (.invokevirtual 65, 3) := by decide +kernel
theorem dX6_hire_10 : decode cX6_hire 10 = .ok (.ifCond .ne 9, 3) := by decide +kernel
theorem dX6_hire_13 : decode cX6_hire 13 = .ok (.aload_n 0, 1) := by decide +kernel
theorem dX6_hire_14 : decode cX6_hire 14 = .ok (.iconst 1, 1) := by decide +kernel
theorem dX6_hire_15 : decode cX6_hire 15 = .ok (.invokevirtual 61, 3) := by decide +kernel
theorem dX6_hire_18 : decode cX6_hire 18 = .ok (.ireturn, 1) := by decide +kernel
theorem dX6_hire_19 : decode cX6_hire 19 = .ok (.iload_n 2, 1) := by decide +kernel
theorem dX6_hire_20 : decode cX6_hire 20 = .ok (.iconst 1, 1) := by decide +kernel
theorem dX6_hire_21 : decode cX6_hire 21 = .ok (.bipush 10, 2) := by decide +kernel
theorem dX6_hire_23 : decode cX6_hire 23 = .ok (.invokestatic 47, 3) := by decide +kernel
theorem dX6_hire_26 : decode cX6_hire 26 = .ok (.ifCond .ne 9, 3) := by decide +kernel
theorem dX6_hire_29 : decode cX6_hire 29 = .ok (.aload_n 0, 1) := by decide +kernel
theorem dX6_hire_30 : decode cX6_hire 30 = .ok (.iconst 2, 1) := by decide +kernel
theorem dX6_hire_31 : decode cX6_hire 31 = .ok (.invokevirtual 61, 3) := by decide +kernel
theorem dX6_hire_34 : decode cX6_hire 34 = .ok (.ireturn, 1) := by decide +kernel
theorem dX6_hire_35 : decode cX6_hire 35 = .ok (.aload_n 0, 1) := by decide +kernel
theorem dX6_hire_36 : decode cX6_hire 36 = .ok (.getfield 54, 3) := by decide +kernel
theorem dX6_hire_39 : decode cX6_hire 39 = .ok (.iconst 4, 1) := by decide +kernel
theorem dX6_hire_40 : decode cX6_hire 40 = .ok (.if_icmp .ne 9, 3) := by decide +kernel
theorem dX6_hire_43 : decode cX6_hire 43 = .ok (.aload_n 0, 1) := by decide +kernel
theorem dX6_hire_44 : decode cX6_hire 44 = .ok (.iconst 3, 1) := by decide +kernel
theorem dX6_hire_45 : decode cX6_hire 45 = .ok (.invokevirtual 61, 3) := by decide +kernel
theorem dX6_hire_48 : decode cX6_hire 48 = .ok (.ireturn, 1) := by decide +kernel
theorem dX6_hire_49 : decode cX6_hire 49 = .ok (.aload_n 0, 1) := by decide +kernel
theorem dX6_hire_50 : decode cX6_hire 50 = .ok (.getfield 16, 3) := by decide +kernel
theorem dX6_hire_53 : decode cX6_hire 53 = .ok (.aload_n 0, 1) := by decide +kernel
theorem dX6_hire_54 : decode cX6_hire 54 = .ok (.getfield 54, 3) := by decide +kernel
theorem dX6_hire_57 : decode cX6_hire 57 = .ok (.iload_n 1, 1) := by decide +kernel
theorem dX6_hire_58 : decode cX6_hire 58 = .ok (.iastore, 1) := by decide +kernel
theorem dX6_hire_59 : decode cX6_hire 59 = .ok (.aload_n 0, 1) := by decide +kernel
theorem dX6_hire_60 : decode cX6_hire 60 = .ok (.getfield 19, 3) := by decide +kernel
theorem dX6_hire_63 : decode cX6_hire 63 = .ok (.aload_n 0, 1) := by decide +kernel
theorem dX6_hire_64 : decode cX6_hire 64 = .ok (.getfield 54, 3) := by decide +kernel
theorem dX6_hire_67 : decode cX6_hire 67 = .ok (.iload_n 2, 1) := by decide +kernel
theorem dX6_hire_68 : decode cX6_hire 68 = .ok (.iastore, 1) := by decide +kernel
theorem dX6_hire_69 : decode cX6_hire 69 = .ok (.aload_n 0, 1) := by decide +kernel
theorem dX6_hire_70 : decode cX6_hire 70 = .ok (.getfield 30, 3) := by decide +kernel
theorem dX6_hire_73 : decode cX6_hire 73 = .ok (.getfield 107, 3) := by decide +kernel
theorem dX6_hire_76 : decode cX6_hire 76 = .ok (.aload_n 0, 1) := by decide +kernel
theorem dX6_hire_77 : decode cX6_hire 77 = .ok (.getfield 54, 3) := by decide +kernel
theorem dX6_hire_80 : decode cX6_hire 80 = .ok (.iconst (-1), 1) := by decide +kernel
theorem dX6_hire_81 : decode cX6_hire 81 = .ok (.iastore, 1) := by decide +kernel
theorem dX6_hire_82 : decode cX6_hire 82 = .ok (.aload_n 0, 1) := by decide +kernel
theorem dX6_hire_83 : decode cX6_hire 83 = .ok (.dup, 1) := by decide +kernel
theorem dX6_hire_84 : decode cX6_hire 84 = .ok (.getfield 54, 3) := by decide +kernel
theorem dX6_hire_87 : decode cX6_hire 87 = .ok (.iconst 1, 1) := by decide +kernel
theorem dX6_hire_88 : decode cX6_hire 88 = .ok (.iadd, 1) := by decide +kernel
theorem dX6_hire_89 : decode cX6_hire 89 = .ok (.putfield 54, 3) := by decide +kernel
theorem dX6_hire_92 : decode cX6_hire 92 = .ok (.aload_n 0, 1) := by decide +kernel
theorem dX6_hire_93 : decode cX6_hire 93 = .ok (.getfield 54, 3) := by decide +kernel
theorem dX6_hire_96 : decode cX6_hire 96 = .ok (.iconst 1, 1) := by decide +kernel
theorem dX6_hire_97 : decode cX6_hire 97 = .ok (.isub, 1) := by decide +kernel
theorem dX6_hire_98 : decode cX6_hire 98 = .ok (.ireturn, 1) := by decide +kernel
theorem dX6_setRota_0 : decode cX6_setRota 0 = .ok (.aload_n 0, 1) := by decide +kernel
theorem dX6_setRota_1 : decode cX6_setRota 1 = .ok (.iconst 0, 1) := by decide +kernel
theorem dX6_setRota_2 : decode cX6_setRota 2 = .ok (.putfield 40, 3) := by decide +kernel
theorem dX6_setRota_5 : decode cX6_setRota 5 = .ok (.aload_n 0, 1) := by decide +kernel
theorem dX6_setRota_6 : decode cX6_setRota 6 = .ok (.iload_n 1, 1) := by decide +kernel
theorem dX6_setRota_7 : decode cX6_setRota 7 = .ok (.invokevirtual 110, 3) := by decide +kernel
theorem dX6_setRota_10 : decode cX6_setRota 10 = .ok (.ifCond .eq 13, 3) := by decide +kernel
theorem dX6_setRota_13 : decode cX6_setRota 13 = .ok (.iload_n 2, 1) := by decide +kernel
theorem dX6_setRota_14 : decode cX6_setRota 14 = .ok (.iconst 0, 1) := by decide +kernel
theorem dX6_setRota_15 : decode cX6_setRota 15 = .ok (.bipush 6, 2) := by decide +kernel
theorem dX6_setRota_17 : decode cX6_setRota 17 = .ok (.invokestatic 47, 3) := by decide +kernel
theorem dX6_setRota_20 : decode cX6_setRota 20 = .ok (.ifCond .ne 9, 3) := by decide +kernel
theorem dX6_setRota_23 : decode cX6_setRota 23 = .ok (.aload_n 0, 1) := by decide +kernel
theorem dX6_setRota_24 : decode cX6_setRota 24 = .ok (.iconst 1, 1) := by decide +kernel
theorem dX6_setRota_25 : decode cX6_setRota 25 = .ok (.invokevirtual 61, 3) := by decide +kernel
theorem dX6_setRota_28 : decode cX6_setRota 28 = .ok (.ireturn, 1) := by decide +kernel
theorem dX6_setRota_29 : decode cX6_setRota 29 = .ok (.iload_n 3, 1) := by decide +kernel
theorem dX6_setRota_30 : decode cX6_setRota 30 = .ok (.iconst 0, 1) := by decide +kernel
theorem dX6_setRota_31 : decode cX6_setRota 31 = .ok (.iconst 3, 1) := by decide +kernel
theorem dX6_setRota_32 : decode cX6_setRota 32 = .ok (.invokestatic 47, 3) := by decide +kernel
theorem dX6_setRota_35 : decode cX6_setRota 35 = .ok (.ifCond .ne 9, 3) := by decide +kernel
theorem dX6_setRota_38 : decode cX6_setRota 38 = .ok (.aload_n 0, 1) := by decide +kernel
theorem dX6_setRota_39 : decode cX6_setRota 39 = .ok (.iconst 2, 1) := by decide +kernel
theorem dX6_setRota_40 : decode cX6_setRota 40 = .ok (.invokevirtual 61, 3) := by decide +kernel
theorem dX6_setRota_43 : decode cX6_setRota 43 = .ok (.ireturn, 1) := by decide +kernel
theorem dX6_setRota_44 : decode cX6_setRota 44 = .ok (.aload_n 0, 1) := by decide +kernel
theorem dX6_setRota_45 : decode cX6_setRota 45 = .ok (.getfield 22, 3) := by decide +kernel
theorem dX6_setRota_48 : decode cX6_setRota 48 = .ok (.bipush 7, 2) := by decide +kernel
theorem dX6_setRota_50 : decode cX6_setRota 50 = .ok (.iload_n 1, 1) := by decide +kernel
theorem dX6_setRota_51 : decode cX6_setRota 51 = .ok (.imul, 1) := by decide +kernel
theorem dX6_setRota_52 : decode cX6_setRota 52 = .ok (.iload_n 2, 1) := by decide +kernel
theorem dX6_setRota_53 : decode cX6_setRota 53 = .ok (.iadd, 1) := by decide +kernel
theorem dX6_setRota_54 : decode cX6_setRota 54 = .ok (.iaload, 1) := by decide +kernel
theorem dX6_setRota_55 : decode cX6_setRota 55 = .ok (.istore 4, 2) := by decide +kernel
theorem dX6_setRota_57 : decode cX6_setRota 57 = .ok (.aload_n 0, 1) := by decide +kernel
theorem dX6_setRota_58 : decode cX6_setRota 58 = .ok (.getfield 22, 3) := by decide +kernel
theorem dX6_setRota_61 : decode cX6_setRota 61 = .ok (.bipush 7, 2) := by decide +kernel
theorem dX6_setRota_63 : decode cX6_setRota 63 = .ok (.iload_n 1, 1) := by decide +kernel
theorem dX6_setRota_64 : decode cX6_setRota 64 = .ok (.imul, 1) := by decide +kernel
theorem dX6_setRota_65 : decode cX6_setRota 65 = .ok (.iload_n 2, 1) := by decide +kernel
theorem dX6_setRota_66 : decode cX6_setRota 66 = .ok (.iadd, 1) := by decide +kernel
theorem dX6_setRota_67 : decode cX6_setRota 67 = .ok (.iload_n 3, 1) := by decide +kernel
theorem dX6_setRota_68 : decode cX6_setRota 68 = .ok (.iastore, 1) := by decide +kernel
theorem dX6_setRota_69 : decode cX6_setRota 69 = .ok (.iload 4, 2) := by decide +kernel
theorem dX6_setRota_71 : decode cX6_setRota 71 = .ok (.ireturn, 1) := by decide +kernel
theorem dX6_wheelTold_0 : decode cX6_wheelTold 0 = .ok (.aload_n 0, 1) := by decide +kernel
theorem dX6_wheelTold_1 : decode cX6_wheelTold 1 = .ok (.getfield 30, 3) := by decide +kernel
theorem dX6_wheelTold_4 : decode cX6_wheelTold 4 = .ok (.getfield 85, 3) := by decide +kernel
theorem dX6_wheelTold_7 : decode cX6_wheelTold 7 = .ok (.iload_n 1, 1) := by decide +kernel
theorem dX6_wheelTold_8 : decode cX6_wheelTold 8 = .ok (.iaload, 1) := by decide +kernel
theorem dX6_wheelTold_9 : decode cX6_wheelTold 9 = .ok (.ifCond .ne 7, 3) := by decide +kernel
theorem dX6_wheelTold_12 : decode cX6_wheelTold 12 = .ok (.iconst 1, 1) := by decide +kernel
theorem dX6_wheelTold_13 : decode cX6_wheelTold 13 = .ok (.goto 4, 3) := by decide +kernel
theorem dX6_wheelTold_16 : decode cX6_wheelTold 16 = .ok (.iconst 0, 1) := by decide +kernel
theorem dX6_wheelTold_17 : decode cX6_wheelTold 17 = .ok (.istore_n 3, 1) := by decide +kernel
theorem dX6_wheelTold_18 : decode cX6_wheelTold 18 = .ok (.bipush 11, 2) := by decide +kernel
theorem dX6_wheelTold_20 : decode cX6_wheelTold 20 = .ok (.newarray .int, 2) := by decide +kernel
theorem dX6_wheelTold_22 : decode cX6_wheelTold 22 = .ok (.dup, 1) := by decide +kernel
theorem dX6_wheelTold_23 : decode cX6_wheelTold 23 = .ok (.iconst 0, 1) := by decide +kernel
theorem dX6_wheelTold_24 : decode cX6_wheelTold 24 = .ok (.aload_n 0, 1) := by decide +kernel
theorem dX6_wheelTold_25 : decode cX6_wheelTold 25 = .ok (.getfield 30, 3) := by decide +kernel
theorem dX6_wheelTold_28 : decode cX6_wheelTold 28 = .ok (.getfield 85, 3) := by decide +kernel
theorem dX6_wheelTold_31 : decode cX6_wheelTold 31 = .ok (.iload_n 1, 1) := by decide +kernel
theorem dX6_wheelTold_32 : decode cX6_wheelTold 32 = .ok (.iaload, 1) := by decide +kernel
theorem dX6_wheelTold_33 : decode cX6_wheelTold 33 = .ok (.iastore, 1) := by decide +kernel
theorem dX6_wheelTold_34 : decode cX6_wheelTold 34 = .ok (.dup, 1) := by decide +kernel
theorem dX6_wheelTold_35 : decode cX6_wheelTold 35 = .ok (.iconst 1, 1) := by decide +kernel
theorem dX6_wheelTold_36 : decode cX6_wheelTold 36 = .ok (.iload_n 3, 1) := by decide +kernel
theorem dX6_wheelTold_37 : decode cX6_wheelTold 37 = .ok (.ifCond .eq 18, 3) := by decide +kernel
theorem dX6_wheelTold_40 : decode cX6_wheelTold 40 = .ok (.aload_n 0, 1) := by decide +kernel
theorem dX6_wheelTold_41 : decode cX6_wheelTold 41 = .ok (.getfield 30, 3) := by decide +kernel
theorem dX6_wheelTold_44 : decode cX6_wheelTold 44 = .ok (.getfield 88, 3) := by decide +kernel
theorem dX6_wheelTold_47 : decode cX6_wheelTold 47 = .ok (.iload_n 1, 1) := by decide +kernel
theorem dX6_wheelTold_48 : decode cX6_wheelTold 48 = .ok (.iaload, 1) := by decide +kernel
theorem dX6_wheelTold_49 : decode cX6_wheelTold 49 = .ok (.bipush 10, 2) := by decide +kernel
theorem dX6_wheelTold_51 : decode cX6_wheelTold 51 = .ok (.idiv, 1) := by decide +kernel
theorem dX6_wheelTold_52 : decode cX6_wheelTold 52 = .ok (.goto 4, 3) := by decide +kernel
theorem dX6_wheelTold_55 : decode cX6_wheelTold 55 = .ok (.iconst (-1), 1) := by decide +kernel
theorem dX6_wheelTold_56 : decode cX6_wheelTold 56 = .ok (.iastore, 1) := by decide +kernel
theorem dX6_wheelTold_57 : decode cX6_wheelTold 57 = .ok (.dup, 1) := by decide +kernel
theorem dX6_wheelTold_58 : decode cX6_wheelTold 58 = .ok (.iconst 2, 1) := by decide +kernel
theorem dX6_wheelTold_59 : decode cX6_wheelTold 59 = .ok (.iload_n 3, 1) := by decide +kernel
theorem dX6_wheelTold_60 : decode cX6_wheelTold 60 = .ok (.ifCond .eq 18, 3) := by decide +kernel
theorem dX6_wheelTold_63 : decode cX6_wheelTold 63 = .ok (.aload_n 0, 1) := by decide +kernel
theorem dX6_wheelTold_64 : decode cX6_wheelTold 64 = .ok (.getfield 30, 3) := by decide +kernel
theorem dX6_wheelTold_67 : decode cX6_wheelTold 67 = .ok (.getfield 88, 3) := by decide +kernel
theorem dX6_wheelTold_70 : decode cX6_wheelTold 70 = .ok (.iload_n 1, 1) := by decide +kernel
theorem dX6_wheelTold_71 : decode cX6_wheelTold 71 = .ok (.iaload, 1) := by decide +kernel
theorem dX6_wheelTold_72 : decode cX6_wheelTold 72 = .ok (.bipush 10, 2) := by decide +kernel
theorem dX6_wheelTold_74 : decode cX6_wheelTold 74 = .ok (.irem, 1) := by decide +kernel
theorem dX6_wheelTold_75 : decode cX6_wheelTold 75 = .ok (.goto 4, 3) := by decide +kernel
theorem dX6_wheelTold_78 : decode cX6_wheelTold 78 = .ok (.iconst (-1), 1) := by decide +kernel
theorem dX6_wheelTold_79 : decode cX6_wheelTold 79 = .ok (.iastore, 1) := by decide +kernel
theorem dX6_wheelTold_80 : decode cX6_wheelTold 80 = .ok (.dup, 1) := by decide +kernel
theorem dX6_wheelTold_81 : decode cX6_wheelTold 81 = .ok (.iconst 3, 1) := by decide +kernel
theorem dX6_wheelTold_82 : decode cX6_wheelTold 82 = .ok (.aload_n 0, 1) := by decide +kernel
theorem dX6_wheelTold_83 : decode cX6_wheelTold 83 = .ok (.getfield 30, 3) := by decide +kernel
theorem dX6_wheelTold_86 : decode cX6_wheelTold 86 = .ok (.getfield 113, 3) := by decide +kernel
theorem dX6_wheelTold_89 : decode cX6_wheelTold 89 = .ok (.iload_n 1, 1) := by decide +kernel
theorem dX6_wheelTold_90 : decode cX6_wheelTold 90 = .ok (.iaload, 1) := by decide +kernel
theorem dX6_wheelTold_91 : decode cX6_wheelTold 91 = .ok (.iastore, 1) := by decide +kernel
theorem dX6_wheelTold_92 : decode cX6_wheelTold 92 = .ok (.dup, 1) := by decide +kernel
theorem dX6_wheelTold_93 : decode cX6_wheelTold 93 = .ok (.iconst 4, 1) := by decide +kernel
theorem dX6_wheelTold_94 : decode cX6_wheelTold 94 = .ok (.aload_n 0, 1) := by decide +kernel
theorem dX6_wheelTold_95 : decode cX6_wheelTold 95 = .ok (.getfield 30, 3) := by decide +kernel
theorem dX6_wheelTold_98 : decode cX6_wheelTold 98 = .ok (.getfield 116, 3) := by decide +kernel
theorem dX6_wheelTold_101 : decode cX6_wheelTold 101 = .ok (.iload_n 1, 1) := by decide +kernel
theorem dX6_wheelTold_102 : decode cX6_wheelTold 102 = .ok (.iaload, 1) := by decide +kernel
theorem dX6_wheelTold_103 : decode cX6_wheelTold 103 = .ok (.iastore, 1) := by decide +kernel
theorem dX6_wheelTold_104 : decode cX6_wheelTold 104 = .ok (.dup, 1) := by decide +kernel
theorem dX6_wheelTold_105 : decode cX6_wheelTold 105 = .ok (.iconst 5, 1) := by decide +kernel
theorem dX6_wheelTold_106 : decode cX6_wheelTold 106 = .ok (.aload_n 0, 1) := by decide +kernel
theorem dX6_wheelTold_107 : decode cX6_wheelTold 107 = .ok (.getfield 30, 3) := by decide +kernel
theorem dX6_wheelTold_110 : decode cX6_wheelTold 110 = .ok (.getfield 76, 3) := by decide +kernel
theorem dX6_wheelTold_113 : decode cX6_wheelTold 113 = .ok (.iload_n 1, 1) := by decide +kernel
theorem dX6_wheelTold_114 : decode cX6_wheelTold 114 = .ok (.iaload, 1) := by decide +kernel
theorem dX6_wheelTold_115 : decode cX6_wheelTold 115 = .ok (.iastore, 1) := by decide +kernel
theorem dX6_wheelTold_116 : decode cX6_wheelTold 116 = .ok (.dup, 1) := by decide +kernel
theorem dX6_wheelTold_117 : decode cX6_wheelTold 117 = .ok (.bipush 6, 2) := by decide +kernel
theorem dX6_wheelTold_119 : decode cX6_wheelTold 119 = .ok (.aload_n 0, 1) := by decide +kernel
theorem dX6_wheelTold_120 : decode cX6_wheelTold 120 = .ok (.getfield 30, 3) := by decide +kernel
theorem dX6_wheelTold_123 : decode cX6_wheelTold 123 = .ok (.getfield 119, 3) := by decide +kernel
theorem dX6_wheelTold_126 : decode cX6_wheelTold 126 = .ok (.iload_n 1, 1) := by decide +kernel
theorem dX6_wheelTold_127 : decode cX6_wheelTold 127 = .ok (.iaload, 1) := by decide +kernel
theorem dX6_wheelTold_128 : decode cX6_wheelTold 128 = .ok (.iastore, 1) := by decide +kernel
theorem dX6_wheelTold_129 : decode cX6_wheelTold 129 = .ok (.dup, 1) := by decide +kernel
theorem dX6_wheelTold_130 : decode cX6_wheelTold 130 = .ok (.bipush 7, 2) := by decide +kernel
theorem dX6_wheelTold_132 : decode cX6_wheelTold 132 = .ok (.aload_n 0, 1) := by decide +kernel
theorem dX6_wheelTold_133 : decode cX6_wheelTold 133 = .ok (.getfield 30, 3) := by decide +kernel
theorem dX6_wheelTold_136 : decode cX6_wheelTold 136 = .ok (.getfield 91, 3) := by decide +kernel
theorem dX6_wheelTold_139 : decode cX6_wheelTold 139 = .ok (.iload_n 1, 1) := by decide +kernel
theorem dX6_wheelTold_140 : decode cX6_wheelTold 140 = .ok (.iaload, 1) := by decide +kernel
theorem dX6_wheelTold_141 : decode cX6_wheelTold 141 = .ok (.iastore, 1) := by decide +kernel
theorem dX6_wheelTold_142 : decode cX6_wheelTold 142 = .ok (.dup, 1) := by decide +kernel
theorem dX6_wheelTold_143 : decode cX6_wheelTold 143 = .ok (.bipush 8, 2) := by decide +kernel
theorem dX6_wheelTold_145 : decode cX6_wheelTold 145 = .ok (.aload_n 0, 1) := by decide +kernel
theorem dX6_wheelTold_146 : decode cX6_wheelTold 146 = .ok (.getfield 30, 3) := by decide +kernel
theorem dX6_wheelTold_149 : decode cX6_wheelTold 149 = .ok (.getfield 122, 3) := by decide +kernel
theorem dX6_wheelTold_152 : decode cX6_wheelTold 152 = .ok (.iload_n 1, 1) := by decide +kernel
theorem dX6_wheelTold_153 : decode cX6_wheelTold 153 = .ok (.iaload, 1) := by decide +kernel
theorem dX6_wheelTold_154 : decode cX6_wheelTold 154 = .ok (.iastore, 1) := by decide +kernel
theorem dX6_wheelTold_155 : decode cX6_wheelTold 155 = .ok (.dup, 1) := by decide +kernel
theorem dX6_wheelTold_156 : decode cX6_wheelTold 156 = .ok (.bipush 9, 2) := by decide +kernel
theorem dX6_wheelTold_158 : decode cX6_wheelTold 158 = .ok (.aload_n 0, 1) := by decide +kernel
theorem dX6_wheelTold_159 : decode cX6_wheelTold 159 = .ok (.getfield 30, 3) := by decide +kernel
theorem dX6_wheelTold_162 : decode cX6_wheelTold 162 = .ok (.getfield 79, 3) := by decide +kernel
theorem dX6_wheelTold_165 : decode cX6_wheelTold 165 = .ok (.iload_n 1, 1) := by decide +kernel
theorem dX6_wheelTold_166 : decode cX6_wheelTold 166 = .ok (.iaload, 1) := by decide +kernel
theorem dX6_wheelTold_167 : decode cX6_wheelTold 167 = .ok (.iastore, 1) := by decide +kernel
theorem dX6_wheelTold_168 : decode cX6_wheelTold 168 = .ok (.dup, 1) := by decide +kernel
theorem dX6_wheelTold_169 : decode cX6_wheelTold 169 = .ok (.bipush 10, 2) := by decide +kernel
theorem dX6_wheelTold_171 : decode cX6_wheelTold 171 = .ok (.aload_n 0, 1) := by decide +kernel
theorem dX6_wheelTold_172 : decode cX6_wheelTold 172 = .ok (.getfield 30, 3) := by decide +kernel
theorem dX6_wheelTold_175 : decode cX6_wheelTold 175 = .ok (.iload_n 1, 1) := by decide +kernel
theorem dX6_wheelTold_176 : decode cX6_wheelTold 176 = .ok (.invokevirtual 104, 3) := by decide +kernel
theorem dX6_wheelTold_179 : decode cX6_wheelTold 179 = .ok (.iastore, 1) := by decide +kernel
theorem dX6_wheelTold_180 : decode cX6_wheelTold 180 = .ok (.astore 4, 2) := by decide +kernel
theorem dX6_wheelTold_182 : decode cX6_wheelTold 182 = .ok (.aload 4, 2) := by decide +kernel
theorem dX6_wheelTold_184 : decode cX6_wheelTold 184 = .ok (.iload_n 2, 1) := by decide +kernel
theorem dX6_wheelTold_185 : decode cX6_wheelTold 185 = .ok (.iaload, 1) := by decide +kernel
theorem dX6_wheelTold_186 : decode cX6_wheelTold 186 = .ok (.ireturn, 1) := by decide +kernel
theorem dX6_wheel_0 : decode cX6_wheel 0 = .ok (.aload_n 0, 1) := by decide +kernel
theorem dX6_wheel_1 : decode cX6_wheel 1 = .ok (.iconst 0, 1) := by decide +kernel
theorem dX6_wheel_2 : decode cX6_wheel 2 = .ok (.putfield 40, 3) := by decide +kernel
theorem dX6_wheel_5 : decode cX6_wheel 5 = .ok (.aload_n 0, 1) := by decide +kernel
theorem dX6_wheel_6 : decode cX6_wheel 6 = .ok (.iload_n 1, 1) := by decide +kernel
theorem dX6_wheel_7 : decode cX6_wheel 7 = .ok (.invokevirtual 82, 3) := by decide +kernel
theorem dX6_wheel_10 : decode cX6_wheel 10 = .ok (.ifCond .eq 22, 3) := by decide +kernel
theorem dX6_wheel_13 : decode cX6_wheel 13 = .ok (.iload_n 2, 1) := by decide +kernel
theorem dX6_wheel_14 : decode cX6_wheel 14 = .ok (.iconst 0, 1) := by decide +kernel
theorem dX6_wheel_15 : decode cX6_wheel 15 = .ok (.bipush 10, 2) := by decide +kernel
theorem dX6_wheel_17 : decode cX6_wheel 17 = .ok (.invokestatic 47, 3) := by decide +kernel
theorem dX6_wheel_20 : decode cX6_wheel 20 = .ok (.ifCond .eq 12, 3) := by decide +kernel
theorem dX6_wheel_23 : decode cX6_wheel 23 = .ok (.aload_n 0, 1) := by decide +kernel
theorem dX6_wheel_24 : decode cX6_wheel 24 = .ok (.iload_n 1, 1) := by decide +kernel
theorem dX6_wheel_25 : decode cX6_wheel 25 = .ok (.iload_n 2, 1) := by decide +kernel
theorem dX6_wheel_26 : decode cX6_wheel 26 = .ok (.invokevirtual 125, 3) := by decide +kernel
theorem dX6_wheel_29 : decode cX6_wheel 29 = .ok (.goto 8, 3) := by decide +kernel
theorem dX6_wheel_32 : decode cX6_wheel 32 = .ok (.aload_n 0, 1) := by decide +kernel
theorem dX6_wheel_33 : decode cX6_wheel 33 = .ok (.iconst 1, 1) := by decide +kernel
theorem dX6_wheel_34 : decode cX6_wheel 34 = .ok (.invokevirtual 61, 3) := by decide +kernel
theorem dX6_wheel_37 : decode cX6_wheel 37 = .ok (.ireturn, 1) := by decide +kernel
theorem dX6_cellarTold_0 : decode cX6_cellarTold 0 = .ok (.iload_n 2, 1) := by decide +kernel
theorem dX6_cellarTold_1 : decode cX6_cellarTold 1 = .ok (.iconst 2, 1) := by decide +kernel
theorem dX6_cellarTold_2 : decode cX6_cellarTold 2 = .ok (.if_icmp .ge 23, 3) := by decide +kernel
theorem dX6_cellarTold_5 : decode cX6_cellarTold 5 = .ok (.iload_n 2, 1) := by decide +kernel
theorem dX6_cellarTold_6 : decode cX6_cellarTold 6 = .ok (.ifCond .ne 12, 3) := by decide +kernel
theorem dX6_cellarTold_9 : decode cX6_cellarTold 9 = .ok (.aload_n 0, 1) := by decide +kernel
theorem dX6_cellarTold_10 : decode cX6_cellarTold 10 = .ok (.getfield 9, 3) := by decide +kernel
theorem dX6_cellarTold_13 : decode cX6_cellarTold 13 = .ok (.iload_n 1, 1) := by decide +kernel
theorem dX6_cellarTold_14 : decode cX6_cellarTold 14 = .ok (.iaload, 1) := by decide +kernel
theorem dX6_cellarTold_15 : decode cX6_cellarTold 15 = .ok (.goto 9, 3) := by decide +kernel
theorem dX6_cellarTold_18 : decode cX6_cellarTold 18 = .ok (.aload_n 0, 1) := by decide +kernel
theorem dX6_cellarTold_19 : decode cX6_cellarTold 19 = .ok (.getfield 13, 3) := by decide +kernel
theorem dX6_cellarTold_22 : decode cX6_cellarTold 22 = .ok (.iload_n 1, 1) := by decide +kernel
theorem dX6_cellarTold_23 : decode cX6_cellarTold 23 = .ok (.iaload, 1) := by decide +kernel
theorem dX6_cellarTold_24 : decode cX6_cellarTold 24 = .ok (.ireturn, 1) := by decide +kernel
theorem dX6_cellarTold_25 : decode cX6_cellarTold 25 = .ok (.iconst 0, 1) := by decide +kernel
theorem dX6_cellarTold_26 : decode cX6_cellarTold 26 = .ok (.istore_n 3, 1) := by decide +kernel
theorem dX6_cellarTold_27 : decode cX6_cellarTold 27 = .ok (.iconst 0, 1) := by decide +kernel
theorem dX6_cellarTold_28 : decode cX6_cellarTold 28 = .ok (.istore 4, 2) := by decide +kernel
theorem dX6_cellarTold_30 : decode cX6_cellarTold 30 = .ok (.iload 4, 2) := by decide +kernel
theorem dX6_cellarTold_32 : decode cX6_cellarTold 32 = .ok (.bipush 10, 2) := by decide +kernel
theorem dX6_cellarTold_34 : decode cX6_cellarTold 34 = .ok (.if_icmp .ge 58, 3) := by decide +kernel
theorem dX6_cellarTold_37 : decode cX6_cellarTold 37 = .ok (.aload_n 0, 1) := by decide +kernel
theorem dX6_cellarTold_38 : decode cX6_cellarTold 38 = .ok (.getfield 30, 3) := by decide +kernel
theorem dX6_cellarTold_41 : decode cX6_cellarTold 41 = .ok (.getfield 37, 3) := by decide +kernel
theorem dX6_cellarTold_44 : decode cX6_cellarTold 44 = .ok (.bipush 10, 2) := by decide +kernel
theorem dX6_cellarTold_46 : decode cX6_cellarTold 46 = .ok (.iload_n 1, 1) := by decide +kernel
theorem dX6_cellarTold_47 : decode cX6_cellarTold 47 = .ok (.imul, 1) := by decide +kernel
theorem dX6_cellarTold_48 : decode cX6_cellarTold 48 = .ok (.iload 4, 2) := by decide +kernel
theorem dX6_cellarTold_50 : decode cX6_cellarTold 50 = .ok (.iadd, 1) := by decide +kernel
theorem dX6_cellarTold_51 : decode cX6_cellarTold 51 = .ok (.iaload, 1) := by decide +kernel
theorem dX6_cellarTold_52 : decode cX6_cellarTold 52 = .ok (.istore 5, 2) := by decide +kernel
theorem dX6_cellarTold_54 : decode cX6_cellarTold 54 = .ok (.iload_n 3, 1) := by decide +kernel
theorem dX6_cellarTold_55 : decode cX6_cellarTold 55 = .ok (.iload 5, 2) := by decide +kernel
theorem dX6_cellarTold_57 : decode cX6_cellarTold 57 = .ok (.iconst (-1), 1) := by decide +kernel
theorem dX6_cellarTold_58 : decode cX6_cellarTold 58 = .ok (.if_icmp .eq 25, 3) := by decide +kernel
theorem dX6_cellarTold_61 : decode cX6_cellarTold 61 = .ok (.iload_n 2, 1) := by decide +kernel
theorem dX6_cellarTold_62 : decode cX6_cellarTold 62 = .ok (.iconst 2, 1) := by decide +kernel
theorem dX6_cellarTold_63 : decode cX6_cellarTold 63 = .ok (.if_icmp .eq 16, 3) := by decide +kernel
theorem dX6_cellarTold_66 : decode cX6_cellarTold 66 = .ok (.aload_n 0, 1) := by decide +kernel
theorem dX6_cellarTold_67 : decode cX6_cellarTold 67 = .ok (.getfield 30, 3) := by decide +kernel
theorem dX6_cellarTold_70 : decode cX6_cellarTold 70 = .ok (.getfield 91, 3) := by decide +kernel
theorem dX6_cellarTold_73 : decode cX6_cellarTold 73 = .ok (.iload 5, 2) := by decide +kernel
theorem dX6_cellarTold_75 : decode cX6_cellarTold 75 = .ok (.iaload, 1) := by decide +kernel
theorem dX6_cellarTold_76 : decode cX6_cellarTold 76 = .ok (.ifCond .le 7, 3) := by decide +kernel
theorem dX6_cellarTold_79 : decode cX6_cellarTold 79 = .ok (.iconst 1, 1) := by decide +kernel
theorem dX6_cellarTold_80 : decode cX6_cellarTold 80 = .ok (.goto 4, 3) := by decide +kernel
theorem dX6_cellarTold_83 : decode cX6_cellarTold 83 = .ok (.iconst 0, 1) := by decide +kernel
theorem dX6_cellarTold_84 : decode cX6_cellarTold 84 = .ok (.iadd, 1) := by decide +kernel
theorem dX6_cellarTold_85 : decode cX6_cellarTold 85 = .ok (.istore_n 3, 1) := by decide +kernel
theorem dX6_cellarTold_86 : decode cX6_cellarTold 86 = .ok (.iinc 4 1, 3) := by decide +kernel
theorem dX6_cellarTold_89 : decode cX6_cellarTold 89 = .ok (.goto (-59), 3) := by decide +kernel
theorem dX6_cellarTold_92 : decode cX6_cellarTold 92 = .ok (.iload_n 3, 1) := by decide +kernel
theorem dX6_cellarTold_93 : decode cX6_cellarTold 93 = .ok (.ireturn, 1) := by decide +kernel
theorem dX6_cellar_0 : decode cX6_cellar 0 = .ok (.aload_n 0, 1) := by decide +kernel
theorem dX6_cellar_1 : decode cX6_cellar 1 = .ok (.iconst 0, 1) := by decide +kernel
theorem dX6_cellar_2 : decode cX6_cellar 2 = .ok (.putfield 40, 3) := by decide +kernel
theorem dX6_cellar_5 : decode cX6_cellar 5 = .ok (.aload_n 0, 1) := by decide +kernel
theorem dX6_cellar_6 : decode cX6_cellar 6 = .ok (.iload_n 1, 1) := by decide +kernel
theorem dX6_cellar_7 : decode cX6_cellar 7 = .ok (.invokevirtual 65, 3) := by decide +kernel
theorem dX6_cellar_10 : decode cX6_cellar 10 = .ok (.ifCond .eq 21, 3) := by decide +kernel
theorem dX6_cellar_13 : decode cX6_cellar 13 = .ok (.iload_n 2, 1) := by decide +kernel
theorem dX6_cellar_14 : decode cX6_cellar 14 = .ok (.iconst 0, 1) := by decide +kernel
theorem dX6_cellar_15 : decode cX6_cellar 15 = .ok (.iconst 3, 1) := by decide +kernel
theorem dX6_cellar_16 : decode cX6_cellar 16 = .ok (.invokestatic 47, 3) := by decide +kernel
theorem dX6_cellar_19 : decode cX6_cellar 19 = .ok (.ifCond .eq 12, 3) := by decide +kernel
theorem dX6_cellar_22 : decode cX6_cellar 22 = .ok (.aload_n 0, 1) := by decide +kernel
theorem dX6_cellar_23 : decode cX6_cellar 23 = .ok (.iload_n 1, 1) := by decide +kernel
theorem dX6_cellar_24 : decode cX6_cellar 24 = .ok (.iload_n 2, 1) := by decide +kernel
theorem dX6_cellar_25 : decode cX6_cellar 25 = .ok (.invokevirtual 129, 3) := by decide +kernel
theorem dX6_cellar_28 : decode cX6_cellar 28 = .ok (.goto 8, 3) := by decide +kernel
theorem dX6_cellar_31 : decode cX6_cellar 31 = .ok (.aload_n 0, 1) := by decide +kernel
theorem dX6_cellar_32 : decode cX6_cellar 32 = .ok (.iconst 1, 1) := by decide +kernel
theorem dX6_cellar_33 : decode cX6_cellar 33 = .ok (.invokevirtual 61, 3) := by decide +kernel
theorem dX6_cellar_36 : decode cX6_cellar 36 = .ok (.ireturn, 1) := by decide +kernel
theorem dX6_at_0 : decode cX6_at 0 = .ok (.aload_n 0, 1) := by decide +kernel
theorem dX6_at_1 : decode cX6_at 1 = .ok (.iconst 0, 1) := by decide +kernel
theorem dX6_at_2 : decode cX6_at 2 = .ok (.putfield 40, 3) := by decide +kernel
theorem dX6_at_5 : decode cX6_at 5 = .ok (.aload_n 0, 1) := by decide +kernel
theorem dX6_at_6 : decode cX6_at 6 = .ok (.iload_n 1, 1) := by decide +kernel
theorem dX6_at_7 : decode cX6_at 7 = .ok (.invokevirtual 65, 3) := by decide +kernel
theorem dX6_at_10 : decode cX6_at 10 = .ok (.ifCond .eq 27, 3) := by decide +kernel
theorem dX6_at_13 : decode cX6_at 13 = .ok (.iload_n 2, 1) := by decide +kernel
theorem dX6_at_14 : decode cX6_at 14 = .ok (.invokestatic 69, 3) := by decide +kernel
theorem dX6_at_17 : decode cX6_at 17 = .ok (.ifCond .eq 20, 3) := by decide +kernel
theorem dX6_at_20 : decode cX6_at 20 = .ok (.aload_n 0, 1) := by decide +kernel
theorem dX6_at_21 : decode cX6_at 21 = .ok (.getfield 30, 3) := by decide +kernel
theorem dX6_at_24 : decode cX6_at 24 = .ok (.getfield 37, 3) := by decide +kernel
theorem dX6_at_27 : decode cX6_at 27 = .ok (.bipush 10, 2) := by decide +kernel
theorem dX6_at_29 : decode cX6_at 29 = .ok (.iload_n 1, 1) := by decide +kernel
theorem dX6_at_30 : decode cX6_at 30 = .ok (.imul, 1) := by decide +kernel
theorem dX6_at_31 : decode cX6_at 31 = .ok (.iload_n 2, 1) := by decide +kernel
theorem dX6_at_32 : decode cX6_at 32 = .ok (.iadd, 1) := by decide +kernel
theorem dX6_at_33 : decode cX6_at 33 = .ok (.iaload, 1) := by decide +kernel
theorem dX6_at_34 : decode cX6_at 34 = .ok (.goto 8, 3) := by decide +kernel
theorem dX6_at_37 : decode cX6_at 37 = .ok (.aload_n 0, 1) := by decide +kernel
theorem dX6_at_38 : decode cX6_at 38 = .ok (.iconst 1, 1) := by decide +kernel
theorem dX6_at_39 : decode cX6_at 39 = .ok (.invokevirtual 61, 3) := by decide +kernel
theorem dX6_at_42 : decode cX6_at 42 = .ok (.ireturn, 1) := by decide +kernel
theorem dX6_monkTold_0 : decode cX6_monkTold 0 = .ok (.iload_n 2, 1) := by decide +kernel
theorem dX6_monkTold_1 : decode cX6_monkTold 1 = .ok (.ifCond .ne 12, 3) := by decide +kernel
theorem dX6_monkTold_4 : decode cX6_monkTold 4 = .ok (.aload_n 0, 1) := by decide +kernel
theorem dX6_monkTold_5 : decode cX6_monkTold 5 = .ok (.getfield 16, 3) := by decide +kernel
theorem dX6_monkTold_8 : decode cX6_monkTold 8 = .ok (.iload_n 1, 1) := by decide +kernel
theorem dX6_monkTold_9 : decode cX6_monkTold 9 = .ok (.iaload, 1) := by decide +kernel
theorem dX6_monkTold_10 : decode cX6_monkTold 10 = .ok (.goto 71, 3) := by decide +kernel
theorem dX6_monkTold_13 : decode cX6_monkTold 13 = .ok (.iload_n 2, 1) := by decide +kernel
theorem dX6_monkTold_14 : decode cX6_monkTold 14 = .ok (.iconst 1, 1) := by decide +kernel
theorem dX6_monkTold_15 : decode cX6_monkTold 15 = .ok (.if_icmp .ne 12, 3) := by decide +kernel
theorem dX6_monkTold_18 : decode cX6_monkTold 18 = .ok (.aload_n 0, 1) := by decide +kernel
theorem dX6_monkTold_19 : decode cX6_monkTold 19 = .ok (.getfield 19, 3) := by decide +kernel
theorem dX6_monkTold_22 : decode cX6_monkTold 22 = .ok (.iload_n 1, 1) := by decide +kernel
theorem dX6_monkTold_23 : decode cX6_monkTold 23 = .ok (.iaload, 1) := by decide +kernel
theorem dX6_monkTold_24 : decode cX6_monkTold 24 = .ok (.goto 57, 3) := by decide +kernel
theorem dX6_monkTold_27 : decode cX6_monkTold 27 = .ok (.iload_n 2, 1) := by decide +kernel
theorem dX6_monkTold_28 : decode cX6_monkTold 28 = .ok (.iconst 2, 1) := by decide +kernel
theorem dX6_monkTold_29 : decode cX6_monkTold 29 = .ok (.if_icmp .ne 15, 3) := by decide +kernel
theorem dX6_monkTold_32 : decode cX6_monkTold 32 = .ok (.aload_n 0, 1) := by decide +kernel
theorem dX6_monkTold_33 : decode cX6_monkTold 33 = .ok (.getfield 30, 3) := by decide +kernel
theorem dX6_monkTold_36 : decode cX6_monkTold 36 = .ok (.getfield 132, 3) := by decide +kernel
theorem dX6_monkTold_39 : decode cX6_monkTold 39 = .ok (.iload_n 1, 1) := by decide +kernel
theorem dX6_monkTold_40 : decode cX6_monkTold 40 = .ok (.iaload, 1) := by decide +kernel
theorem dX6_monkTold_41 : decode cX6_monkTold 41 = .ok (.goto 40, 3) := by decide +kernel
theorem dX6_monkTold_44 : decode cX6_monkTold 44 = .ok (.iload_n 2, 1) := by decide +kernel
theorem dX6_monkTold_45 : decode cX6_monkTold 45 = .ok (.iconst 3, 1) := by decide +kernel
theorem dX6_monkTold_46 : decode cX6_monkTold 46 = .ok (.if_icmp .ne 15, 3) := by decide +kernel
theorem dX6_monkTold_49 : decode cX6_monkTold 49 = .ok (.aload_n 0, 1) := by decide +kernel
theorem dX6_monkTold_50 : decode cX6_monkTold 50 = .ok (.getfield 30, 3) := by decide +kernel
theorem dX6_monkTold_53 : decode cX6_monkTold 53 = .ok (.getfield 107, 3) := by decide +kernel
theorem dX6_monkTold_56 : decode cX6_monkTold 56 = .ok (.iload_n 1, 1) := by decide +kernel
theorem dX6_monkTold_57 : decode cX6_monkTold 57 = .ok (.iaload, 1) := by decide +kernel
theorem dX6_monkTold_58 : decode cX6_monkTold 58 = .ok (.goto 23, 3) := by decide +kernel
theorem dX6_monkTold_61 : decode cX6_monkTold 61 = .ok (.aload_n 0, 1) := by decide +kernel
theorem dX6_monkTold_62 : decode cX6_monkTold 62 = .ok (.getfield 22, 3) := by decide +kernel
theorem dX6_monkTold_65 : decode cX6_monkTold 65 = .ok (.bipush 7, 2) := by decide +kernel
theorem dX6_monkTold_67 : decode cX6_monkTold 67 = .ok (.iload_n 1, 1) := by decide +kernel
theorem dX6_monkTold_68 : decode cX6_monkTold 68 = .ok (.imul, 1) := by decide +kernel
theorem dX6_monkTold_69 : decode cX6_monkTold 69 = .ok (.aload_n 0, 1) := by decide +kernel
theorem dX6_monkTold_70 : decode cX6_monkTold 70 = .ok (.getfield 30, 3) := by decide +kernel
theorem dX6_monkTold_73 : decode cX6_monkTold 73 = .ok (.getfield 135, 3) := by decide +kernel
theorem dX6_monkTold_76 : decode cX6_monkTold 76 = .ok (.bipush 7, 2) := by decide +kernel
theorem dX6_monkTold_78 : decode cX6_monkTold 78 = .ok (.irem, 1) := by decide +kernel
theorem dX6_monkTold_79 : decode cX6_monkTold 79 = .ok (.iadd, 1) := by decide +kernel
theorem dX6_monkTold_80 : decode cX6_monkTold 80 = .ok (.iaload, 1) := by decide +kernel
theorem dX6_monkTold_81 : decode cX6_monkTold 81 = .ok (.ireturn, 1) := by decide +kernel
theorem dX6_monk_0 : decode cX6_monk 0 = .ok (.aload_n 0, 1) := by decide +kernel
theorem dX6_monk_1 : decode cX6_monk 1 = .ok (.iconst 0, 1) := by decide +kernel
theorem dX6_monk_2 : decode cX6_monk 2 = .ok (.putfield 40, 3) := by decide +kernel
theorem dX6_monk_5 : decode cX6_monk 5 = .ok (.aload_n 0, 1) := by decide +kernel
theorem dX6_monk_6 : decode cX6_monk 6 = .ok (.iload_n 1, 1) := by decide +kernel
theorem dX6_monk_7 : decode cX6_monk 7 = .ok (.invokevirtual 110, 3) := by decide +kernel
theorem dX6_monk_10 : decode cX6_monk 10 = .ok (.ifCond .eq 21, 3) := by decide +kernel
theorem dX6_monk_13 : decode cX6_monk 13 = .ok (.iload_n 2, 1) := by decide +kernel
theorem dX6_monk_14 : decode cX6_monk 14 = .ok (.iconst 0, 1) := by decide +kernel
theorem dX6_monk_15 : decode cX6_monk 15 = .ok (.iconst 4, 1) := by decide +kernel
theorem dX6_monk_16 : decode cX6_monk 16 = .ok (.invokestatic 47, 3) := by decide +kernel
theorem dX6_monk_19 : decode cX6_monk 19 = .ok (.ifCond .eq 12, 3) := by decide +kernel
theorem dX6_monk_22 : decode cX6_monk 22 = .ok (.aload_n 0, 1) := by decide +kernel
theorem dX6_monk_23 : decode cX6_monk 23 = .ok (.iload_n 1, 1) := by decide +kernel
theorem dX6_monk_24 : decode cX6_monk 24 = .ok (.iload_n 2, 1) := by decide +kernel
theorem dX6_monk_25 : decode cX6_monk 25 = .ok (.invokevirtual 138, 3) := by decide +kernel
theorem dX6_monk_28 : decode cX6_monk 28 = .ok (.goto 8, 3) := by decide +kernel
theorem dX6_monk_31 : decode cX6_monk 31 = .ok (.aload_n 0, 1) := by decide +kernel
theorem dX6_monk_32 : decode cX6_monk 32 = .ok (.iconst 1, 1) := by decide +kernel
theorem dX6_monk_33 : decode cX6_monk 33 = .ok (.invokevirtual 61, 3) := by decide +kernel
theorem dX6_monk_36 : decode cX6_monk 36 = .ok (.ireturn, 1) := by decide +kernel
theorem dX6_counted_0 : decode cX6_counted 0 = .ok (.bipush 9, 2) := by decide +kernel
theorem dX6_counted_2 : decode cX6_counted 2 = .ok (.newarray .int, 2) := by decide +kernel
theorem dX6_counted_4 : decode cX6_counted 4 = .ok (.dup, 1) := by decide +kernel
theorem dX6_counted_5 : decode cX6_counted 5 = .ok (.iconst 0, 1) := by decide +kernel
theorem dX6_counted_6 : decode cX6_counted 6 = .ok (.aload_n 0, 1) := by decide +kernel
theorem dX6_counted_7 : decode cX6_counted 7 = .ok (.getfield 30, 3) := by decide +kernel
theorem dX6_counted_10 : decode cX6_counted 10 = .ok (.getfield 135, 3) := by decide +kernel
theorem dX6_counted_13 : decode cX6_counted 13 = .ok (.iastore, 1) := by decide +kernel
theorem dX6_counted_14 : decode cX6_counted 14 = .ok (.dup, 1) := by decide +kernel
theorem dX6_counted_15 : decode cX6_counted 15 = .ok (.iconst 1, 1) := by decide +kernel
theorem dX6_counted_16 : decode cX6_counted 16 = .ok (.aload_n 0, 1) := by decide +kernel
theorem dX6_counted_17 : decode cX6_counted 17 = .ok (.getfield 44, 3) := by decide +kernel
theorem dX6_counted_20 : decode cX6_counted 20 = .ok (.iastore, 1) := by decide +kernel
theorem dX6_counted_21 : decode cX6_counted 21 = .ok (.dup, 1) := by decide +kernel
theorem dX6_counted_22 : decode cX6_counted 22 = .ok (.iconst 2, 1) := by decide +kernel
theorem dX6_counted_23 : decode cX6_counted 23 = .ok (.aload_n 0, 1) := by decide +kernel
theorem dX6_counted_24 : decode cX6_counted 24 = .ok (.getfield 51, 3) := by decide +kernel
theorem dX6_counted_27 : decode cX6_counted 27 = .ok (.iastore, 1) := by decide +kernel
theorem dX6_counted_28 : decode cX6_counted 28 = .ok (.dup, 1) := by decide +kernel
theorem dX6_counted_29 : decode cX6_counted 29 = .ok (.iconst 3, 1) := by decide +kernel
theorem dX6_counted_30 : decode cX6_counted 30 = .ok (.aload_n 0, 1) := by decide +kernel
theorem dX6_counted_31 : decode cX6_counted 31 = .ok (.getfield 30, 3) := by decide +kernel
theorem dX6_counted_34 : decode cX6_counted 34 = .ok (.iconst 0, 1) := by decide +kernel
theorem dX6_counted_35 : decode cX6_counted 35 = .ok (.invokevirtual 141, 3) := by decide +kernel
theorem dX6_counted_38 : decode cX6_counted 38 = .ok (.iastore, 1) := by decide +kernel
theorem dX6_counted_39 : decode cX6_counted 39 = .ok (.dup, 1) := by decide +kernel
theorem dX6_counted_40 : decode cX6_counted 40 = .ok (.iconst 4, 1) := by decide +kernel
theorem dX6_counted_41 : decode cX6_counted 41 = .ok (.aload_n 0, 1) := by decide +kernel
theorem dX6_counted_42 : decode cX6_counted 42 = .ok (.getfield 30, 3) := by decide +kernel
theorem dX6_counted_45 : decode cX6_counted 45 = .ok (.iconst 1, 1) := by decide +kernel
theorem dX6_counted_46 : decode cX6_counted 46 = .ok (.invokevirtual 141, 3) := by decide +kernel
theorem dX6_counted_49 : decode cX6_counted 49 = .ok (.iastore, 1) := by decide +kernel
theorem dX6_counted_50 : decode cX6_counted 50 = .ok (.dup, 1) := by decide +kernel
theorem dX6_counted_51 : decode cX6_counted 51 = .ok (.iconst 5, 1) := by decide +kernel
theorem dX6_counted_52 : decode cX6_counted 52 = .ok (.aload_n 0, 1) := by decide +kernel
theorem dX6_counted_53 : decode cX6_counted 53 = .ok (.getfield 30, 3) := by decide +kernel
theorem dX6_counted_56 : decode cX6_counted 56 = .ok (.iconst 2, 1) := by decide +kernel
theorem dX6_counted_57 : decode cX6_counted 57 = .ok (.invokevirtual 141, 3) := by decide +kernel
theorem dX6_counted_60 : decode cX6_counted 60 = .ok (.iastore, 1) := by decide +kernel
theorem dX6_counted_61 : decode cX6_counted 61 = .ok (.dup, 1) := by decide +kernel
theorem dX6_counted_62 : decode cX6_counted 62 = .ok (.bipush 6, 2) := by decide +kernel
theorem dX6_counted_64 : decode cX6_counted 64 = .ok (.aload_n 0, 1) := by decide +kernel
theorem dX6_counted_65 : decode cX6_counted 65 = .ok (.getfield 30, 3) := by decide +kernel
theorem dX6_counted_68 : decode cX6_counted 68 = .ok (.invokevirtual 144, 3) := by decide +kernel
theorem dX6_counted_71 : decode cX6_counted 71 = .ok (.iastore, 1) := by decide +kernel
theorem dX6_counted_72 : decode cX6_counted 72 = .ok (.dup, 1) := by decide +kernel
theorem dX6_counted_73 : decode cX6_counted 73 = .ok (.bipush 7, 2) := by decide +kernel
theorem dX6_counted_75 : decode cX6_counted 75 = .ok (.aload_n 0, 1) := by decide +kernel
theorem dX6_counted_76 : decode cX6_counted 76 = .ok (.getfield 101, 3) := by decide +kernel
theorem dX6_counted_79 : decode cX6_counted 79 = .ok (.iastore, 1) := by decide +kernel
theorem dX6_counted_80 : decode cX6_counted 80 = .ok (.dup, 1) := by decide +kernel
theorem dX6_counted_81 : decode cX6_counted 81 = .ok (.bipush 8, 2) := by decide +kernel
theorem dX6_counted_83 : decode cX6_counted 83 = .ok (.aload_n 0, 1) := by decide +kernel
theorem dX6_counted_84 : decode cX6_counted 84 = .ok (.getfield 54, 3) := by decide +kernel
theorem dX6_counted_87 : decode cX6_counted 87 = .ok (.iastore, 1) := by decide +kernel
theorem dX6_counted_88 : decode cX6_counted 88 = .ok (.astore_n 2, 1) := by decide +kernel
theorem dX6_counted_89 : decode cX6_counted 89 = .ok (.aload_n 2, 1) := by decide +kernel
theorem dX6_counted_90 : decode cX6_counted 90 = .ok (.iload_n 1, 1) := by decide +kernel
theorem dX6_counted_91 : decode cX6_counted 91 = .ok (.iaload, 1) := by decide +kernel
theorem dX6_counted_92 : decode cX6_counted 92 = .ok (.ireturn, 1) := by decide +kernel
theorem dX6_count_0 : decode cX6_count 0 = .ok (.aload_n 0, 1) := by decide +kernel
theorem dX6_count_1 : decode cX6_count 1 = .ok (.iconst 0, 1) := by decide +kernel
theorem dX6_count_2 : decode cX6_count 2 = .ok (.putfield 40, 3) := by decide +kernel
theorem dX6_count_5 : decode cX6_count 5 = .ok (.iload_n 1, 1) := by decide +kernel
theorem dX6_count_6 : decode cX6_count 6 = .ok (.iconst 0, 1) := by decide +kernel
theorem dX6_count_7 : decode cX6_count 7 = .ok (.bipush 8, 2) := by decide +kernel
theorem dX6_count_9 : decode cX6_count 9 = .ok (.invokestatic 47, 3) := by decide +kernel
theorem dX6_count_12 : decode cX6_count 12 = .ok (.ifCond .eq 11, 3) := by decide +kernel
theorem dX6_count_15 : decode cX6_count 15 = .ok (.aload_n 0, 1) := by decide +kernel
theorem dX6_count_16 : decode cX6_count 16 = .ok (.iload_n 1, 1) := by decide +kernel
theorem dX6_count_17 : decode cX6_count 17 = .ok (.invokevirtual 148, 3) := by decide +kernel
theorem dX6_count_20 : decode cX6_count 20 = .ok (.goto 8, 3) := by decide +kernel
theorem dX6_count_23 : decode cX6_count 23 = .ok (.aload_n 0, 1) := by decide +kernel
theorem dX6_count_24 : decode cX6_count 24 = .ok (.iconst 1, 1) := by decide +kernel
theorem dX6_count_25 : decode cX6_count 25 = .ok (.invokevirtual 61, 3) := by decide +kernel
theorem dX6_count_28 : decode cX6_count 28 = .ok (.ireturn, 1) := by decide +kernel
theorem dX6_pass_0 : decode cX6_pass 0 = .ok (.aload_n 0, 1) := by decide +kernel
theorem dX6_pass_1 : decode cX6_pass 1 = .ok (.iconst 0, 1) := by decide +kernel
theorem dX6_pass_2 : decode cX6_pass 2 = .ok (.putfield 40, 3) := by decide +kernel
theorem dX6_pass_5 : decode cX6_pass 5 = .ok (.iload_n 1, 1) := by decide +kernel
theorem dX6_pass_6 : decode cX6_pass 6 = .ok (.iconst 1, 1) := by decide +kernel
theorem dX6_pass_7 : decode cX6_pass 7 = .ok (.bipush 100, 2) := by decide +kernel
theorem dX6_pass_9 : decode cX6_pass 9 = .ok (.invokestatic 47, 3) := by decide +kernel
theorem dX6_pass_12 : decode cX6_pass 12 = .ok (.ifCond .ne 9, 3) := by decide +kernel
theorem dX6_pass_15 : decode cX6_pass 15 = .ok (.aload_n 0, 1) := by decide +kernel
theorem dX6_pass_16 : decode cX6_pass 16 = .ok (.iconst 1, 1) := by decide +kernel
theorem dX6_pass_17 : decode cX6_pass 17 = .ok (.invokevirtual 61, 3) := by decide +kernel
theorem dX6_pass_20 : decode cX6_pass 20 = .ok (.ireturn, 1) := by decide +kernel
theorem dX6_pass_21 : decode cX6_pass 21 = .ok (.aload_n 0, 1) := by decide +kernel
theorem dX6_pass_22 : decode cX6_pass 22 = .ok (.getfield 30, 3) := by decide +kernel
theorem dX6_pass_25 : decode cX6_pass 25 = .ok (.iconst 2, 1) := by decide +kernel
theorem dX6_pass_26 : decode cX6_pass 26 = .ok (.invokevirtual 141, 3) := by decide +kernel
theorem dX6_pass_29 : decode cX6_pass 29 = .ok (.istore_n 2, 1) := by decide +kernel
theorem dX6_pass_30 : decode cX6_pass 30 = .ok (.aload_n 0, 1) := by decide +kernel
theorem dX6_pass_31 : decode cX6_pass 31 = .ok (.getfield 30, 3) := by decide +kernel
theorem dX6_pass_34 : decode cX6_pass 34 = .ok (.iload_n 1, 1) := by decide +kernel
theorem dX6_pass_35 : decode cX6_pass 35 = .ok (.invokevirtual 151, 3) := by decide +kernel
theorem dX6_pass_38 : decode cX6_pass 38 = .ok (.aload_n 0, 1) := by decide +kernel
theorem dX6_pass_39 : decode cX6_pass 39 = .ok (.getfield 30, 3) := by decide +kernel
theorem dX6_pass_42 : decode cX6_pass 42 = .ok (.iconst 2, 1) := by decide +kernel
theorem dX6_pass_43 : decode cX6_pass 43 = .ok (.invokevirtual 141, 3) := by decide +kernel
theorem dX6_pass_46 : decode cX6_pass 46 = .ok (.iload_n 2, 1) := by decide +kernel
theorem dX6_pass_47 : decode cX6_pass 47 = .ok (.isub, 1) := by decide +kernel
theorem dX6_pass_48 : decode cX6_pass 48 = .ok (.ireturn, 1) := by decide +kernel
theorem dX6_best_0 : decode cX6_best 0 = .ok (.aload_n 0, 1) := by decide +kernel
theorem dX6_best_1 : decode cX6_best 1 = .ok (.iconst 0, 1) := by decide +kernel
theorem dX6_best_2 : decode cX6_best 2 = .ok (.putfield 40, 3) := by decide +kernel
theorem dX6_best_5 : decode cX6_best 5 = .ok (.aload_n 0, 1) := by decide +kernel
theorem dX6_best_6 : decode cX6_best 6 = .ok (.iload_n 1, 1) := by decide +kernel
theorem dX6_best_7 : decode cX6_best 7 = .ok (.invokevirtual 82, 3) := by decide +kernel
theorem dX6_best_10 : decode cX6_best 10 = .ok (.ifCond .ne 9, 3) := by decide +kernel
theorem dX6_best_13 : decode cX6_best 13 = .ok (.aload_n 0, 1) := by decide +kernel
theorem dX6_best_14 : decode cX6_best 14 = .ok (.iconst 1, 1) := by decide +kernel
theorem dX6_best_15 : decode cX6_best 15 = .ok (.invokevirtual 61, 3) := by decide +kernel
theorem dX6_best_18 : decode cX6_best 18 = .ok (.ireturn, 1) := by decide +kernel
theorem dX6_best_19 : decode cX6_best 19 = .ok (.aload_n 0, 1) := by decide +kernel
theorem dX6_best_20 : decode cX6_best 20 = .ok (.getfield 30, 3) := by decide +kernel
theorem dX6_best_23 : decode cX6_best 23 = .ok (.getfield 85, 3) := by decide +kernel
theorem dX6_best_26 : decode cX6_best 26 = .ok (.iload_n 1, 1) := by decide +kernel
theorem dX6_best_27 : decode cX6_best 27 = .ok (.iaload, 1) := by decide +kernel
theorem dX6_best_28 : decode cX6_best 28 = .ok (.ifCond .eq 5, 3) := by decide +kernel
theorem dX6_best_31 : decode cX6_best 31 = .ok (.iconst (-1), 1) := by decide +kernel
theorem dX6_best_32 : decode cX6_best 32 = .ok (.ireturn, 1) := by decide +kernel
theorem dX6_best_33 : decode cX6_best 33 = .ok (.aload_n 0, 1) := by decide +kernel
theorem dX6_best_34 : decode cX6_best 34 = .ok (.getfield 34, 3) := by decide +kernel
theorem dX6_best_37 : decode cX6_best 37 = .ok (.aload_n 0, 1) := by decide +kernel
theorem dX6_best_38 : decode cX6_best 38 = .ok (.getfield 30, 3) := by decide +kernel
theorem dX6_best_41 : decode cX6_best 41 = .ok (.invokevirtual 155, 3) := by decide +kernel
theorem dX6_best_44 : decode cX6_best 44 = .ok (.iconst (-1), 1) := by decide +kernel
theorem dX6_best_45 : decode cX6_best 45 = .ok (.istore_n 2, 1) := by decide +kernel
theorem dX6_best_46 : decode cX6_best 46 = .ok (.iconst (-1), 1) := by decide +kernel
theorem dX6_best_47 : decode cX6_best 47 = .ok (.istore_n 3, 1) := by decide +kernel
theorem dX6_best_48 : decode cX6_best 48 = .ok (.iconst 0, 1) := by decide +kernel
theorem dX6_best_49 : decode cX6_best 49 = .ok (.istore 4, 2) := by decide +kernel
theorem dX6_best_51 : decode cX6_best 51 = .ok (.iload 4, 2) := by decide +kernel
theorem dX6_best_53 : decode cX6_best 53 = .ok (.bipush 60, 2) := by decide +kernel
theorem dX6_best_55 : decode cX6_best 55 = .ok (.if_icmp .gt 40, 3) := by decide +kernel
theorem dX6_best_58 : decode cX6_best 58 = .ok (.aload_n 0, 1) := by decide +kernel
theorem dX6_best_59 : decode cX6_best 59 = .ok (.getfield 34, 3) := by decide +kernel
theorem dX6_best_62 : decode cX6_best 62 = .ok (.iload_n 1, 1) := by decide +kernel
theorem dX6_best_63 : decode cX6_best 63 = .ok (.invokevirtual 159, 3) := by decide +kernel
theorem dX6_best_66 : decode cX6_best 66 = .ok (.iload_n 2, 1) := by decide +kernel
theorem dX6_best_67 : decode cX6_best 67 = .ok (.if_icmp .le 15, 3) := by decide +kernel
theorem dX6_best_70 : decode cX6_best 70 = .ok (.aload_n 0, 1) := by decide +kernel
theorem dX6_best_71 : decode cX6_best 71 = .ok (.getfield 34, 3) := by decide +kernel
theorem dX6_best_74 : decode cX6_best 74 = .ok (.iload_n 1, 1) := by decide +kernel
theorem dX6_best_75 : decode cX6_best 75 = .ok (.invokevirtual 159, 3) := by decide +kernel
theorem dX6_best_78 : decode cX6_best 78 = .ok (.istore_n 2, 1) := by decide +kernel
theorem dX6_best_79 : decode cX6_best 79 = .ok (.iload 4, 2) := by decide +kernel
theorem dX6_best_81 : decode cX6_best 81 = .ok (.istore_n 3, 1) := by decide +kernel
theorem dX6_best_82 : decode cX6_best 82 = .ok (.aload_n 0, 1) := by decide +kernel
theorem dX6_best_83 : decode cX6_best 83 = .ok (.getfield 34, 3) := by decide +kernel
theorem dX6_best_86 : decode cX6_best 86 = .ok (.invokevirtual 162, 3) := by decide +kernel
theorem dX6_best_89 : decode cX6_best 89 = .ok (.iinc 4 1, 3) := by decide +kernel
theorem dX6_best_92 : decode cX6_best 92 = .ok (.goto (-41), 3) := by decide +kernel
theorem dX6_best_95 : decode cX6_best 95 = .ok (.iload_n 3, 1) := by decide +kernel
theorem dX6_best_96 : decode cX6_best 96 = .ok (.ireturn, 1) := by decide +kernel
theorem dX6_foresee_0 : decode cX6_foresee 0 = .ok (.aload_n 0, 1) := by decide +kernel
theorem dX6_foresee_1 : decode cX6_foresee 1 = .ok (.iconst 0, 1) := by decide +kernel
theorem dX6_foresee_2 : decode cX6_foresee 2 = .ok (.putfield 40, 3) := by decide +kernel
theorem dX6_foresee_5 : decode cX6_foresee 5 = .ok (.iload_n 1, 1) := by decide +kernel
theorem dX6_foresee_6 : decode cX6_foresee 6 = .ok (.iconst 1, 1) := by decide +kernel
theorem dX6_foresee_7 : decode cX6_foresee 7 = .ok (.bipush 100, 2) := by decide +kernel
theorem dX6_foresee_9 : decode cX6_foresee 9 = .ok (.invokestatic 47, 3) := by decide +kernel
theorem dX6_foresee_12 : decode cX6_foresee 12 = .ok (.ifCond .ne 9, 3) := by decide +kernel
theorem dX6_foresee_15 : decode cX6_foresee 15 = .ok (.aload_n 0, 1) := by decide +kernel
theorem dX6_foresee_16 : decode cX6_foresee 16 = .ok (.iconst 1, 1) := by decide +kernel
theorem dX6_foresee_17 : decode cX6_foresee 17 = .ok (.invokevirtual 61, 3) := by decide +kernel
theorem dX6_foresee_20 : decode cX6_foresee 20 = .ok (.ireturn, 1) := by decide +kernel
theorem dX6_foresee_21 : decode cX6_foresee 21 = .ok (.iload_n 2, 1) := by decide +kernel
theorem dX6_foresee_22 : decode cX6_foresee 22 = .ok (.iconst 0, 1) := by decide +kernel
theorem dX6_foresee_23 : decode cX6_foresee 23 = .ok (.iconst 2, 1) := by decide +kernel
theorem dX6_foresee_24 : decode cX6_foresee 24 = .ok (.invokestatic 47, 3) := by decide +kernel
theorem dX6_foresee_27 : decode cX6_foresee 27 = .ok (.ifCond .ne 9, 3) := by decide +kernel
theorem dX6_foresee_30 : decode cX6_foresee 30 = .ok (.aload_n 0, 1) := by decide +kernel
theorem dX6_foresee_31 : decode cX6_foresee 31 = .ok (.iconst 2, 1) := by decide +kernel
theorem dX6_foresee_32 : decode cX6_foresee 32 = .ok (.invokevirtual 61, 3) := by decide +kernel
theorem dX6_foresee_35 : decode cX6_foresee 35 = .ok (.ireturn, 1) := by decide +kernel
theorem dX6_foresee_36 : decode cX6_foresee 36 = .ok (.aload_n 0, 1) := by decide +kernel
theorem dX6_foresee_37 : decode cX6_foresee 37 = .ok (.getfield 34, 3) := by decide +kernel
theorem dX6_foresee_40 : decode cX6_foresee 40 = .ok (.aload_n 0, 1) := by decide +kernel
theorem dX6_foresee_41 : decode cX6_foresee 41 = .ok (.getfield 30, 3) := by decide +kernel
theorem dX6_foresee_44 : decode cX6_foresee 44 = .ok (.invokevirtual 155, 3) := by decide +kernel
theorem dX6_foresee_47 : decode cX6_foresee 47 = .ok (.aload_n 0, 1) := by decide +kernel
theorem dX6_foresee_48 : decode cX6_foresee 48 = .ok (.getfield 34, 3) := by decide +kernel
theorem dX6_foresee_51 : decode cX6_foresee 51 = .ok (.iload_n 1, 1) := by decide +kernel
theorem dX6_foresee_52 : decode cX6_foresee 52 = .ok (.invokevirtual 151, 3) := by decide +kernel
theorem dX6_foresee_55 : decode cX6_foresee 55 = .ok (.iload_n 2, 1) := by decide +kernel
theorem dX6_foresee_56 : decode cX6_foresee 56 = .ok (.ifCond .ne 14, 3) := by decide +kernel
theorem dX6_foresee_59 : decode cX6_foresee 59 = .ok (.aload_n 0, 1) := by decide +kernel
theorem dX6_foresee_60 : decode cX6_foresee 60 = .ok (.getfield 34, 3) := by decide +kernel
theorem dX6_foresee_63 : decode cX6_foresee 63 = .ok (.iconst 2, 1) := by decide +kernel
theorem dX6_foresee_64 : decode cX6_foresee 64 = .ok (.invokevirtual 141, 3) := by decide +kernel
theorem dX6_foresee_67 : decode cX6_foresee 67 = .ok (.goto 25, 3) := by decide +kernel
theorem dX6_foresee_70 : decode cX6_foresee 70 = .ok (.iload_n 2, 1) := by decide +kernel
theorem dX6_foresee_71 : decode cX6_foresee 71 = .ok (.iconst 1, 1) := by decide +kernel
theorem dX6_foresee_72 : decode cX6_foresee 72 = .ok (.if_icmp .ne 13, 3) := by decide +kernel
theorem dX6_foresee_75 : decode cX6_foresee 75 = .ok (.aload_n 0, 1) := by decide +kernel
theorem dX6_foresee_76 : decode cX6_foresee 76 = .ok (.getfield 34, 3) := by decide +kernel
theorem dX6_foresee_79 : decode cX6_foresee 79 = .ok (.invokevirtual 144, 3) := by decide +kernel
theorem dX6_foresee_82 : decode cX6_foresee 82 = .ok (.goto 10, 3) := by decide +kernel
theorem dX6_foresee_85 : decode cX6_foresee 85 = .ok (.aload_n 0, 1) := by decide +kernel
theorem dX6_foresee_86 : decode cX6_foresee 86 = .ok (.getfield 34, 3) := by decide +kernel
theorem dX6_foresee_89 : decode cX6_foresee 89 = .ok (.invokevirtual 164, 3) := by decide +kernel
theorem dX6_foresee_92 : decode cX6_foresee 92 = .ok (.ireturn, 1) := by decide +kernel
theorem dX6_advise_0 : decode cX6_advise 0 = .ok (.aload_n 0, 1) := by decide +kernel
theorem dX6_advise_1 : decode cX6_advise 1 = .ok (.iconst 0, 1) := by decide +kernel
theorem dX6_advise_2 : decode cX6_advise 2 = .ok (.putfield 40, 3) := by decide +kernel
theorem dX6_advise_5 : decode cX6_advise 5 = .ok (.aload_n 0, 1) := by decide +kernel
theorem dX6_advise_6 : decode cX6_advise 6 = .ok (.iload_n 1, 1) := by decide +kernel
theorem dX6_advise_7 : decode cX6_advise 7 = .ok (.invokevirtual 82, 3) := by decide +kernel
theorem dX6_advise_10 : decode cX6_advise 10 = .ok (.ifCond .ne 9, 3) := by decide +kernel
theorem dX6_advise_13 : decode cX6_advise 13 = .ok (.aload_n 0, 1) := by decide +kernel
theorem dX6_advise_14 : decode cX6_advise 14 = .ok (.iconst 1, 1) := by decide +kernel
theorem dX6_advise_15 : decode cX6_advise 15 = .ok (.invokevirtual 61, 3) := by decide +kernel
theorem dX6_advise_18 : decode cX6_advise 18 = .ok (.ireturn, 1) := by decide +kernel
theorem dX6_advise_19 : decode cX6_advise 19 = .ok (.iload_n 2, 1) := by decide +kernel
theorem dX6_advise_20 : decode cX6_advise 20 = .ok (.iconst 1, 1) := by decide +kernel
theorem dX6_advise_21 : decode cX6_advise 21 = .ok (.bipush 40, 2) := by decide +kernel
theorem dX6_advise_23 : decode cX6_advise 23 = .ok (.invokestatic 47, 3) := by decide +kernel
theorem dX6_advise_26 : decode cX6_advise 26 = .ok (.ifCond .ne 9, 3) := by decide +kernel
theorem dX6_advise_29 : decode cX6_advise 29 = .ok (.aload_n 0, 1) := by decide +kernel
theorem dX6_advise_30 : decode cX6_advise 30 = .ok (.iconst 2, 1) := by decide +kernel
theorem dX6_advise_31 : decode cX6_advise 31 = .ok (.invokevirtual 61, 3) := by decide +kernel
theorem dX6_advise_34 : decode cX6_advise 34 = .ok (.ireturn, 1) := by decide +kernel
theorem dX6_advise_35 : decode cX6_advise 35 = .ok (.aload_n 0, 1) := by decide +kernel
theorem dX6_advise_36 : decode cX6_advise 36 = .ok (.getfield 30, 3) := by decide +kernel
theorem dX6_advise_39 : decode cX6_advise 39 = .ok (.getfield 85, 3) := by decide +kernel
theorem dX6_advise_42 : decode cX6_advise 42 = .ok (.iload_n 1, 1) := by decide +kernel
theorem dX6_advise_43 : decode cX6_advise 43 = .ok (.iaload, 1) := by decide +kernel
theorem dX6_advise_44 : decode cX6_advise 44 = .ok (.ifCond .eq 5, 3) := by decide +kernel
theorem dX6_advise_47 : decode cX6_advise 47 = .ok (.iconst (-1), 1) := by decide +kernel
theorem dX6_advise_48 : decode cX6_advise 48 = .ok (.ireturn, 1) := by decide +kernel
theorem dX6_advise_49 : decode cX6_advise 49 = .ok (.iconst (-1), 1) := by decide +kernel
theorem dX6_advise_50 : decode cX6_advise 50 = .ok (.istore_n 3, 1) := by decide +kernel
theorem dX6_advise_51 : decode cX6_advise 51 = .ok (.iconst (-1), 1) := by decide +kernel
theorem dX6_advise_52 : decode cX6_advise 52 = .ok (.istore 4, 2) := by decide +kernel
theorem dX6_advise_54 : decode cX6_advise 54 = .ok (.iconst 0, 1) := by decide +kernel
theorem dX6_advise_55 : decode cX6_advise 55 = .ok (.istore 5, 2) := by decide +kernel
theorem dX6_advise_57 : decode cX6_advise 57 = .ok (.iload 5, 2) := by decide +kernel
theorem dX6_advise_59 : decode cX6_advise 59 = .ok (.aload_n 0, 1) := by decide +kernel
theorem dX6_advise_60 : decode cX6_advise 60 = .ok (.getfield 44, 3) := by decide +kernel
theorem dX6_advise_63 : decode cX6_advise 63 = .ok (.if_icmp .ge 154, 3) := by decide +kernel
theorem dX6_advise_66 : decode cX6_advise 66 = .ok (.aload_n 0, 1) := by decide +kernel
theorem dX6_advise_67 : decode cX6_advise 67 = .ok (.getfield 34, 3) := by decide +kernel
theorem dX6_advise_70 : decode cX6_advise 70 = .ok (.aload_n 0, 1) := by decide +kernel
theorem dX6_advise_71 : decode cX6_advise 71 = .ok (.getfield 30, 3) := by decide +kernel
theorem dX6_advise_74 : decode cX6_advise 74 = .ok (.invokevirtual 155, 3) := by decide +kernel
theorem dX6_advise_77 : decode cX6_advise 77 = .ok (.iload 5, 2) := by decide +kernel
theorem dX6_advise_79 : decode cX6_advise 79 = .ok (.aload_n 0, 1) := by decide +kernel
theorem dX6_advise_80 : decode cX6_advise 80 = .ok (.getfield 30, 3) := by decide +kernel
theorem dX6_advise_83 : decode cX6_advise 83 = .ok (.getfield 88, 3) := by decide +kernel
theorem dX6_advise_86 : decode cX6_advise 86 = .ok (.iload_n 1, 1) := by decide +kernel
theorem dX6_advise_87 : decode cX6_advise 87 = .ok (.iaload, 1) := by decide +kernel
theorem dX6_advise_88 : decode cX6_advise 88 = .ok (.bipush 10, 2) := by decide +kernel
theorem dX6_advise_90 : decode cX6_advise 90 = .ok (.idiv, 1) := by decide +kernel
theorem dX6_advise_91 : decode cX6_advise 91 = .ok (.if_icmp .eq 83, 3) := by decide +kernel
theorem dX6_advise_94 : decode cX6_advise 94 = .ok (.iconst 0, 1) := by decide +kernel
theorem dX6_advise_95 : decode cX6_advise 95 = .ok (.istore 6, 2) := by decide +kernel
theorem dX6_advise_97 : decode cX6_advise 97 = .ok (.iload 6, 2) := by decide +kernel
theorem dX6_advise_99 : decode cX6_advise 99 = .ok (.bipush 10, 2) := by decide +kernel
theorem dX6_advise_101 : decode cX6_advise 101 = .ok (.if_icmp .ge 29, 3) := by decide +kernel
theorem dX6_advise_104 : decode cX6_advise 104 = .ok (.aload_n 0, 1) := by decide +kernel
theorem dX6_advise_105 : decode cX6_advise 105 = .ok (.getfield 34, 3) := by decide +kernel
theorem dX6_advise_108 : decode cX6_advise 108 = .ok (.getfield 37, 3) := by decide +kernel
theorem dX6_advise_111 : decode cX6_advise 111 = .ok (.bipush 10, 2) := by decide +kernel
theorem dX6_advise_113 : decode cX6_advise 113 = .ok (.iload 5, 2) := by decide +kernel
theorem dX6_advise_115 : decode cX6_advise 115 = .ok (.imul, 1) := by decide +kernel
theorem dX6_advise_116 : decode cX6_advise 116 = .ok (.iload 6, 2) := by decide +kernel
theorem dX6_advise_118 : decode cX6_advise 118 = .ok (.iadd, 1) := by decide +kernel
theorem dX6_advise_119 : decode cX6_advise 119 = .ok (.iaload, 1) := by decide +kernel
theorem dX6_advise_120 : decode cX6_advise 120 = .ok (.iconst (-1), 1) := by decide +kernel
theorem dX6_advise_121 : decode cX6_advise 121 = .ok (.if_icmp .eq 9, 3) := by decide +kernel
theorem dX6_advise_124 : decode cX6_advise 124 = .ok (.iinc 6 1, 3) := by decide +kernel
theorem dX6_advise_127 : decode cX6_advise 127 = .ok (.goto (-30), 3) := by decide +kernel
theorem dX6_advise_130 : decode cX6_advise 130 = .ok (.iload 6, 2) := by decide +kernel
theorem dX6_advise_132 : decode cX6_advise 132 = .ok (.bipush 10, 2) := by decide +kernel
theorem dX6_advise_134 : decode cX6_advise 134 = .ok (.if_icmp .ne 6, 3) := by decide +kernel
theorem dX6_advise_137 : decode cX6_advise 137 = .ok (.goto 74, 3) := by decide +kernel
theorem dX6_advise_140 : decode cX6_advise 140 = .ok (.aload_n 0, 1) := by decide +kernel
theorem dX6_advise_141 : decode cX6_advise 141 = .ok (.getfield 34, 3) := by decide +kernel
theorem dX6_advise_144 : decode cX6_advise 144 = .ok (.getfield 37, 3) := by decide +kernel
theorem dX6_advise_147 : decode cX6_advise 147 = .ok (.aload_n 0, 1) := by decide +kernel
theorem dX6_advise_148 : decode cX6_advise 148 = .ok (.getfield 34, 3) := by decide +kernel
theorem dX6_advise_151 : decode cX6_advise 151 = .ok (.getfield 88, 3) := by decide +kernel
theorem dX6_advise_154 : decode cX6_advise 154 = .ok (.iload_n 1, 1) := by decide +kernel
theorem dX6_advise_155 : decode cX6_advise 155 = .ok (.iaload, 1) := by decide +kernel
theorem dX6_advise_156 : decode cX6_advise 156 = .ok (.iconst (-1), 1) := by decide +kernel
theorem dX6_advise_157 : decode cX6_advise 157 = .ok (.iastore, 1) := by decide +kernel
theorem dX6_advise_158 : decode cX6_advise 158 = .ok (.aload_n 0, 1) := by decide +kernel
theorem dX6_advise_159 : decode cX6_advise 159 = .ok (.getfield 34, 3) := by decide +kernel
theorem dX6_advise_162 : decode cX6_advise 162 = .ok (.iload_n 1, 1) := by decide +kernel
theorem dX6_advise_163 : decode cX6_advise 163 = .ok (.bipush 10, 2) := by decide +kernel
theorem dX6_advise_165 : decode cX6_advise 165 = .ok (.iload 5, 2) := by decide +kernel
theorem dX6_advise_167 : decode cX6_advise 167 = .ok (.imul, 1) := by decide +kernel
theorem dX6_advise_168 : decode cX6_advise 168 = .ok (.iload 6, 2) := by decide +kernel
theorem dX6_advise_170 : decode cX6_advise 170 = .ok (.iadd, 1) := by decide +kernel
theorem dX6_advise_171 : decode cX6_advise 171 = .ok (.invokevirtual 72, 3) := by decide +kernel
theorem dX6_advise_174 : decode cX6_advise 174 = .ok (.aload_n 0, 1) := by decide +kernel
theorem dX6_advise_175 : decode cX6_advise 175 = .ok (.getfield 34, 3) := by decide +kernel
theorem dX6_advise_178 : decode cX6_advise 178 = .ok (.iload_n 2, 1) := by decide +kernel
theorem dX6_advise_179 : decode cX6_advise 179 = .ok (.invokevirtual 151, 3) := by decide +kernel
theorem dX6_advise_182 : decode cX6_advise 182 = .ok (.aload_n 0, 1) := by decide +kernel
theorem dX6_advise_183 : decode cX6_advise 183 = .ok (.getfield 34, 3) := by decide +kernel
theorem dX6_advise_186 : decode cX6_advise 186 = .ok (.iload_n 1, 1) := by decide +kernel
theorem dX6_advise_187 : decode cX6_advise 187 = .ok (.invokevirtual 159, 3) := by decide +kernel
theorem dX6_advise_190 : decode cX6_advise 190 = .ok (.iload 4, 2) := by decide +kernel
theorem dX6_advise_192 : decode cX6_advise 192 = .ok (.if_icmp .gt 6, 3) := by decide +kernel
theorem dX6_advise_195 : decode cX6_advise 195 = .ok (.goto 16, 3) := by decide +kernel
theorem dX6_advise_198 : decode cX6_advise 198 = .ok (.aload_n 0, 1) := by decide +kernel
theorem dX6_advise_199 : decode cX6_advise 199 = .ok (.getfield 34, 3) := by decide +kernel
theorem dX6_advise_202 : decode cX6_advise 202 = .ok (.iload_n 1, 1) := by decide +kernel
theorem dX6_advise_203 : decode cX6_advise 203 = .ok (.invokevirtual 159, 3) := by decide +kernel
theorem dX6_advise_206 : decode cX6_advise 206 = .ok (.istore 4, 2) := by decide +kernel
theorem dX6_advise_208 : decode cX6_advise 208 = .ok (.iload 5, 2) := by decide +kernel
theorem dX6_advise_210 : decode cX6_advise 210 = .ok (.istore_n 3, 1) := by decide +kernel
theorem dX6_advise_211 : decode cX6_advise 211 = .ok (.iinc 5 1, 3) := by decide +kernel
theorem dX6_advise_214 : decode cX6_advise 214 = .ok (.goto (-157), 3) := by decide +kernel
theorem dX6_advise_217 : decode cX6_advise 217 = .ok (.iload_n 3, 1) := by decide +kernel
theorem dX6_advise_218 : decode cX6_advise 218 = .ok (.ireturn, 1) := by decide +kernel
theorem dX6_mean_0 : decode cX6_mean 0 = .ok (.aload_n 0, 1) := by decide +kernel
theorem dX6_mean_1 : decode cX6_mean 1 = .ok (.iconst 0, 1) := by decide +kernel
theorem dX6_mean_2 : decode cX6_mean 2 = .ok (.putfield 40, 3) := by decide +kernel
theorem dX6_mean_5 : decode cX6_mean 5 = .ok (.aload_n 0, 1) := by decide +kernel
theorem dX6_mean_6 : decode cX6_mean 6 = .ok (.getfield 30, 3) := by decide +kernel
theorem dX6_mean_9 : decode cX6_mean 9 = .ok (.iconst 0, 1) := by decide +kernel
theorem dX6_mean_10 : decode cX6_mean 10 = .ok (.invokevirtual 141, 3) := by decide +kernel
theorem dX6_mean_13 : decode cX6_mean 13 = .ok (.ifCond .ne 7, 3) := by decide +kernel
theorem dX6_mean_16 : decode cX6_mean 16 = .ok (.dconst 0, 1) := by decide +kernel
theorem dX6_mean_17 : decode cX6_mean 17 = .ok (.goto 21, 3) := by decide +kernel
theorem dX6_mean_20 : decode cX6_mean 20 = .ok (.aload_n 0, 1) := by decide +kernel
theorem dX6_mean_21 : decode cX6_mean 21 = .ok (.getfield 30, 3) := by decide +kernel
theorem dX6_mean_24 : decode cX6_mean 24 = .ok (.invokevirtual 164, 3) := by decide +kernel
theorem dX6_mean_27 : decode cX6_mean 27 = .ok (.i2d, 1) := by decide +kernel
theorem dX6_mean_28 : decode cX6_mean 28 = .ok (.aload_n 0, 1) := by decide +kernel
theorem dX6_mean_29 : decode cX6_mean 29 = .ok (.getfield 30, 3) := by decide +kernel
theorem dX6_mean_32 : decode cX6_mean 32 = .ok (.iconst 0, 1) := by decide +kernel
theorem dX6_mean_33 : decode cX6_mean 33 = .ok (.invokevirtual 141, 3) := by decide +kernel
theorem dX6_mean_36 : decode cX6_mean 36 = .ok (.i2d, 1) := by decide +kernel
theorem dX6_mean_37 : decode cX6_mean 37 = .ok (.ddiv, 1) := by decide +kernel
theorem dX6_mean_38 : decode cX6_mean 38 = .ok (.dreturn, 1) := by decide +kernel
theorem dX6_digest_0 : decode cX6_digest 0 = .ok (.aload_n 0, 1) := by decide +kernel
theorem dX6_digest_1 : decode cX6_digest 1 = .ok (.iconst 0, 1) := by decide +kernel
theorem dX6_digest_2 : decode cX6_digest 2 = .ok (.putfield 40, 3) := by decide +kernel
theorem dX6_digest_5 : decode cX6_digest 5 = .ok (.ldc2_w 167, 3) := by decide +kernel
theorem dX6_digest_8 : decode cX6_digest 8 = .ok (.lstore_n 1, 1) := by decide +kernel
theorem dX6_digest_9 : decode cX6_digest 9 = .ok (.iconst 0, 1) := by decide +kernel
theorem dX6_digest_10 : decode cX6_digest 10 = .ok (.istore_n 3, 1) := by decide +kernel
theorem dX6_digest_11 : decode cX6_digest 11 = .ok (.iload_n 3, 1) := by decide +kernel
theorem dX6_digest_12 : decode cX6_digest 12 = .ok (.bipush 9, 2) := by decide +kernel
theorem dX6_digest_14 : decode cX6_digest 14 = .ok (.if_icmp .ge 22, 3) := by decide +kernel
theorem dX6_digest_17 : decode cX6_digest 17 = .ok (.lload_n 1, 1) := by decide +kernel
theorem dX6_digest_18 : decode cX6_digest 18 = .ok (.ldc2_w 169, 3) := by decide +kernel
theorem dX6_digest_21 : decode cX6_digest 21 = .ok (.lmul, 1) := by decide +kernel
theorem dX6_digest_22 : decode cX6_digest 22 = .ok (.aload_n 0, 1) := by decide +kernel
theorem dX6_digest_23 : decode cX6_digest 23 = .ok (.iload_n 3, 1) := by decide +kernel
theorem dX6_digest_24 : decode cX6_digest 24 = .ok (.invokevirtual 148, 3) := by decide +kernel
theorem dX6_digest_27 : decode cX6_digest 27 = .ok (.i2l, 1) := by decide +kernel
theorem dX6_digest_28 : decode cX6_digest 28 = .ok (.ladd, 1) := by decide +kernel
theorem dX6_digest_29 : decode cX6_digest 29 = .ok (.lstore_n 1, 1) := by decide +kernel
theorem dX6_digest_30 : decode cX6_digest 30 = .ok (.iinc 3 1, 3) := by decide +kernel
theorem dX6_digest_33 : decode cX6_digest 33 = .ok (.goto (-22), 3) := by decide +kernel
theorem dX6_digest_36 : decode cX6_digest 36 = .ok (.iconst 0, 1) := by decide +kernel
theorem dX6_digest_37 : decode cX6_digest 37 = .ok (.istore_n 3, 1) := by decide +kernel
theorem dX6_digest_38 : decode cX6_digest 38 = .ok (.iload_n 3, 1) := by decide +kernel
theorem dX6_digest_39 : decode cX6_digest 39 = .ok (.aload_n 0, 1) := by decide +kernel
theorem dX6_digest_40 : decode cX6_digest 40 = .ok (.getfield 44, 3) := by decide +kernel
theorem dX6_digest_43 : decode cX6_digest 43 = .ok (.if_icmp .ge 39, 3) := by decide +kernel
theorem dX6_digest_46 : decode cX6_digest 46 = .ok (.iconst 0, 1) := by decide +kernel
theorem dX6_digest_47 : decode cX6_digest 47 = .ok (.istore 4, 2) := by decide +kernel
theorem dX6_digest_49 : decode cX6_digest 49 = .ok (.iload 4, 2) := by decide +kernel
theorem dX6_digest_51 : decode cX6_digest 51 = .ok (.iconst 4, 1) := by decide +kernel
theorem dX6_digest_52 : decode cX6_digest 52 = .ok (.if_icmp .ge 24, 3) := by decide +kernel
theorem dX6_digest_55 : decode cX6_digest 55 = .ok (.lload_n 1, 1) := by decide +kernel
theorem dX6_digest_56 : decode cX6_digest 56 = .ok (.ldc2_w 169, 3) := by decide +kernel
theorem dX6_digest_59 : decode cX6_digest 59 = .ok (.lmul, 1) := by decide +kernel
theorem dX6_digest_60 : decode cX6_digest 60 = .ok (.aload_n 0, 1) := by decide +kernel
theorem dX6_digest_61 : decode cX6_digest 61 = .ok (.iload_n 3, 1) := by decide +kernel
theorem dX6_digest_62 : decode cX6_digest 62 = .ok (.iload 4, 2) := by decide +kernel
theorem dX6_digest_64 : decode cX6_digest 64 = .ok (.invokevirtual 129, 3) := by decide +kernel
theorem dX6_digest_67 : decode cX6_digest 67 = .ok (.i2l, 1) := by decide +kernel
theorem dX6_digest_68 : decode cX6_digest 68 = .ok (.ladd, 1) := by decide +kernel
theorem dX6_digest_69 : decode cX6_digest 69 = .ok (.lstore_n 1, 1) := by decide +kernel
theorem dX6_digest_70 : decode cX6_digest 70 = .ok (.iinc 4 1, 3) := by decide +kernel
theorem dX6_digest_73 : decode cX6_digest 73 = .ok (.goto (-24), 3) := by decide +kernel
theorem dX6_digest_76 : decode cX6_digest 76 = .ok (.iinc 3 1, 3) := by decide +kernel
theorem dX6_digest_79 : decode cX6_digest 79 = .ok (.goto (-41), 3) := by decide +kernel
theorem dX6_digest_82 : decode cX6_digest 82 = .ok (.iconst 0, 1) := by decide +kernel
theorem dX6_digest_83 : decode cX6_digest 83 = .ok (.istore_n 3, 1) := by decide +kernel
theorem dX6_digest_84 : decode cX6_digest 84 = .ok (.iload_n 3, 1) := by decide +kernel
theorem dX6_digest_85 : decode cX6_digest 85 = .ok (.aload_n 0, 1) := by decide +kernel
theorem dX6_digest_86 : decode cX6_digest 86 = .ok (.getfield 51, 3) := by decide +kernel
theorem dX6_digest_89 : decode cX6_digest 89 = .ok (.if_icmp .ge 40, 3) := by decide +kernel
theorem dX6_digest_92 : decode cX6_digest 92 = .ok (.iconst 0, 1) := by decide +kernel
theorem dX6_digest_93 : decode cX6_digest 93 = .ok (.istore 4, 2) := by decide +kernel
theorem dX6_digest_95 : decode cX6_digest 95 = .ok (.iload 4, 2) := by decide +kernel
theorem dX6_digest_97 : decode cX6_digest 97 = .ok (.bipush 11, 2) := by decide +kernel
theorem dX6_digest_99 : decode cX6_digest 99 = .ok (.if_icmp .ge 24, 3) := by decide +kernel
theorem dX6_digest_102 : decode cX6_digest 102 = .ok (.lload_n 1, 1) := by decide +kernel
theorem dX6_digest_103 : decode cX6_digest 103 = .ok (.ldc2_w 169, 3) := by decide +kernel
theorem dX6_digest_106 : decode cX6_digest 106 = .ok (.lmul, 1) := by decide +kernel
theorem dX6_digest_107 : decode cX6_digest 107 = .ok (.aload_n 0, 1) := by decide +kernel
theorem dX6_digest_108 : decode cX6_digest 108 = .ok (.iload_n 3, 1) := by decide +kernel
theorem dX6_digest_109 : decode cX6_digest 109 = .ok (.iload 4, 2) := by decide +kernel
theorem dX6_digest_111 : decode cX6_digest 111 = .ok (.invokevirtual 125, 3) := by decide +kernel
theorem dX6_digest_114 : decode cX6_digest 114 = .ok (.i2l, 1) := by decide +kernel
theorem dX6_digest_115 : decode cX6_digest 115 = .ok (.ladd, 1) := by decide +kernel
theorem dX6_digest_116 : decode cX6_digest 116 = .ok (.lstore_n 1, 1) := by decide +kernel
theorem dX6_digest_117 : decode cX6_digest 117 = .ok (.iinc 4 1, 3) := by decide +kernel
theorem dX6_digest_120 : decode cX6_digest 120 = .ok (.goto (-25), 3) := by decide +kernel
theorem dX6_digest_123 : decode cX6_digest 123 = .ok (.iinc 3 1, 3) := by decide +kernel
theorem dX6_digest_126 : decode cX6_digest 126 = .ok (.goto (-42), 3) := by decide +kernel
theorem dX6_digest_129 : decode cX6_digest 129 = .ok (.iconst 0, 1) := by decide +kernel
theorem dX6_digest_130 : decode cX6_digest 130 = .ok (.istore_n 3, 1) := by decide +kernel
theorem dX6_digest_131 : decode cX6_digest 131 = .ok (.iload_n 3, 1) := by decide +kernel
theorem dX6_digest_132 : decode cX6_digest 132 = .ok (.aload_n 0, 1) := by decide +kernel
theorem dX6_digest_133 : decode cX6_digest 133 = .ok (.getfield 54, 3) := by decide +kernel
theorem dX6_digest_136 : decode cX6_digest 136 = .ok (.if_icmp .ge 75, 3) := by decide +kernel
theorem dX6_digest_139 : decode cX6_digest 139 = .ok (.iconst 0, 1) := by decide +kernel
theorem dX6_digest_140 : decode cX6_digest 140 = .ok (.istore 4, 2) := by decide +kernel
theorem dX6_digest_142 : decode cX6_digest 142 = .ok (.iload 4, 2) := by decide +kernel
theorem dX6_digest_144 : decode cX6_digest 144 = .ok (.iconst 5, 1) := by decide +kernel
theorem dX6_digest_145 : decode cX6_digest 145 = .ok (.if_icmp .ge 24, 3) := by decide +kernel
theorem dX6_digest_148 : decode cX6_digest 148 = .ok (.lload_n 1, 1) := by decide +kernel
theorem dX6_digest_149 : decode cX6_digest 149 = .ok (.ldc2_w 169, 3) := by decide +kernel
theorem dX6_digest_152 : decode cX6_digest 152 = .ok (.lmul, 1) := by decide +kernel
theorem dX6_digest_153 : decode cX6_digest 153 = .ok (.aload_n 0, 1) := by decide +kernel
theorem dX6_digest_154 : decode cX6_digest 154 = .ok (.iload_n 3, 1) := by decide +kernel
theorem dX6_digest_155 : decode cX6_digest 155 = .ok (.iload 4, 2) := by decide +kernel
theorem dX6_digest_157 : decode cX6_digest 157 = .ok (.invokevirtual 138, 3) := by decide +kernel
theorem dX6_digest_160 : decode cX6_digest 160 = .ok (.i2l, 1) := by decide +kernel
theorem dX6_digest_161 : decode cX6_digest 161 = .ok (.ladd, 1) := by decide +kernel
theorem dX6_digest_162 : decode cX6_digest 162 = .ok (.lstore_n 1, 1) := by decide +kernel
theorem dX6_digest_163 : decode cX6_digest 163 = .ok (.iinc 4 1, 3) := by decide +kernel
theorem dX6_digest_166 : decode cX6_digest 166 = .ok (.goto (-24), 3) := by decide +kernel
theorem dX6_digest_169 : decode cX6_digest 169 = .ok (.iconst 0, 1) := by decide +kernel
theorem dX6_digest_170 : decode cX6_digest 170 = .ok (.istore 4, 2) := by decide +kernel
theorem dX6_digest_172 : decode cX6_digest 172 = .ok (.iload 4, 2) := by decide +kernel
theorem dX6_digest_174 : decode cX6_digest 174 = .ok (.bipush 7, 2) := by decide +kernel
theorem dX6_digest_176 : decode cX6_digest 176 = .ok (.if_icmp .ge 29, 3) := by decide +kernel
theorem dX6_digest_179 : decode cX6_digest 179 = .ok (.lload_n 1, 1) := by decide +kernel
theorem dX6_digest_180 : decode cX6_digest 180 = .ok (.ldc2_w 169, 3) := by decide +kernel
theorem dX6_digest_183 : decode cX6_digest 183 = .ok (.lmul, 1) := by decide +kernel
theorem dX6_digest_184 : decode cX6_digest 184 = .ok (.aload_n 0, 1) := by decide +kernel
theorem dX6_digest_185 : decode cX6_digest 185 = .ok (.getfield 22, 3) := by decide +kernel
theorem dX6_digest_188 : decode cX6_digest 188 = .ok (.bipush 7, 2) := by decide +kernel
theorem dX6_digest_190 : decode cX6_digest 190 = .ok (.iload_n 3, 1) := by decide +kernel
theorem dX6_digest_191 : decode cX6_digest 191 = .ok (.imul, 1) := by decide +kernel
theorem dX6_digest_192 : decode cX6_digest 192 = .ok (.iload 4, 2) := by decide +kernel
theorem dX6_digest_194 : decode cX6_digest 194 = .ok (.iadd, 1) := by decide +kernel
theorem dX6_digest_195 : decode cX6_digest 195 = .ok (.iaload, 1) := by decide +kernel
theorem dX6_digest_196 : decode cX6_digest 196 = .ok (.i2l, 1) := by decide +kernel
theorem dX6_digest_197 : decode cX6_digest 197 = .ok (.ladd, 1) := by decide +kernel
theorem dX6_digest_198 : decode cX6_digest 198 = .ok (.lstore_n 1, 1) := by decide +kernel
theorem dX6_digest_199 : decode cX6_digest 199 = .ok (.iinc 4 1, 3) := by decide +kernel
theorem dX6_digest_202 : decode cX6_digest 202 = .ok (.goto (-30), 3) := by decide +kernel
theorem dX6_digest_205 : decode cX6_digest 205 = .ok (.iinc 3 1, 3) := by decide +kernel
theorem dX6_digest_208 : decode cX6_digest 208 = .ok (.goto (-77), 3) := by decide +kernel
theorem dX6_digest_211 : decode cX6_digest 211 = .ok (.lload_n 1, 1) := by decide +kernel
theorem dX6_digest_212 : decode cX6_digest 212 = .ok (.lreturn, 1) := by decide +kernel
theorem dJ9_floorMod_7cf53_0 : decode cJ9_floorMod_7cf53 0 = .ok (.iload_n 0, 1) := by decide +kernel
theorem dJ9_floorMod_7cf53_1 : decode cJ9_floorMod_7cf53 1 = .ok (.iload_n 1, 1) := by decide +kernel
theorem dJ9_floorMod_7cf53_2 : decode cJ9_floorMod_7cf53 2 = .ok (.irem, 1) := by decide +kernel
theorem dJ9_floorMod_7cf53_3 : decode cJ9_floorMod_7cf53 3 = .ok (.istore_n 2, 1) := by decide +kernel
theorem dJ9_floorMod_7cf53_4 : decode cJ9_floorMod_7cf53 4 = .ok (.iload_n 0, 1) := by decide +kernel
theorem dJ9_floorMod_7cf53_5 : decode cJ9_floorMod_7cf53 5 = .ok (.iload_n 1, 1) := by decide +kernel
theorem dJ9_floorMod_7cf53_6 : decode cJ9_floorMod_7cf53 6 = .ok (.ixor, 1) := by decide +kernel
theorem dJ9_floorMod_7cf53_7 : decode cJ9_floorMod_7cf53 7 = .ok (.ifCond .ge 11, 3) := by decide +kernel
theorem dJ9_floorMod_7cf53_10 : decode cJ9_floorMod_7cf53 10 = .ok (.iload_n 2, 1) := by decide +kernel
theorem dJ9_floorMod_7cf53_11 : decode cJ9_floorMod_7cf53 11 = .ok (.ifCond .eq 7, 3) := by decide +kernel
theorem dJ9_floorMod_7cf53_14 : decode cJ9_floorMod_7cf53 14 = .ok (.iload_n 2, 1) := by decide +kernel
theorem dJ9_floorMod_7cf53_15 : decode cJ9_floorMod_7cf53 15 = .ok (.iload_n 1, 1) := by decide +kernel
theorem dJ9_floorMod_7cf53_16 : decode cJ9_floorMod_7cf53 16 = .ok (.iadd, 1) := by decide +kernel
theorem dJ9_floorMod_7cf53_17 : decode cJ9_floorMod_7cf53 17 = .ok (.ireturn, 1) := by decide +kernel
theorem dJ9_floorMod_7cf53_18 : decode cJ9_floorMod_7cf53 18 = .ok (.iload_n 2, 1) := by decide +kernel
theorem dJ9_floorMod_7cf53_19 : decode cJ9_floorMod_7cf53 19 = .ok (.ireturn, 1) := by decide +kernel
theorem dJ9_abs_0f7a4_0 : decode cJ9_abs_0f7a4 0 = .ok (.iload_n 0, 1) := by decide +kernel
theorem dJ9_abs_0f7a4_1 : decode cJ9_abs_0f7a4 1 = .ok (.ifCond .ge 8, 3) := by decide +kernel
theorem dJ9_abs_0f7a4_4 : decode cJ9_abs_0f7a4 4 = .ok (.iload_n 0, 1) := by decide +kernel
theorem dJ9_abs_0f7a4_5 : decode cJ9_abs_0f7a4 5 = .ok (.ineg, 1) := by decide +kernel
theorem dJ9_abs_0f7a4_6 : decode cJ9_abs_0f7a4 6 = .ok (.goto 4, 3) := by decide +kernel
theorem dJ9_abs_0f7a4_9 : decode cJ9_abs_0f7a4 9 = .ok (.iload_n 0, 1) := by decide +kernel
theorem dJ9_abs_0f7a4_10 : decode cJ9_abs_0f7a4 10 = .ok (.ireturn, 1) := by decide +kernel
theorem dJ9_max_7cf53_0 : decode cJ9_max_7cf53 0 = .ok (.iload_n 0, 1) := by decide +kernel
theorem dJ9_max_7cf53_1 : decode cJ9_max_7cf53 1 = .ok (.iload_n 1, 1) := by decide +kernel
theorem dJ9_max_7cf53_2 : decode cJ9_max_7cf53 2 = .ok (.if_icmp .lt 7, 3) := by decide +kernel
theorem dJ9_max_7cf53_5 : decode cJ9_max_7cf53 5 = .ok (.iload_n 0, 1) := by decide +kernel
theorem dJ9_max_7cf53_6 : decode cJ9_max_7cf53 6 = .ok (.goto 4, 3) := by decide +kernel
theorem dJ9_max_7cf53_9 : decode cJ9_max_7cf53 9 = .ok (.iload_n 1, 1) := by decide +kernel
theorem dJ9_max_7cf53_10 : decode cJ9_max_7cf53 10 = .ok (.ireturn, 1) := by decide +kernel
theorem dJ9_min_7cf53_0 : decode cJ9_min_7cf53 0 = .ok (.iload_n 0, 1) := by decide +kernel
theorem dJ9_min_7cf53_1 : decode cJ9_min_7cf53 1 = .ok (.iload_n 1, 1) := by decide +kernel
theorem dJ9_min_7cf53_2 : decode cJ9_min_7cf53 2 = .ok (.if_icmp .gt 7, 3) := by decide +kernel
theorem dJ9_min_7cf53_5 : decode cJ9_min_7cf53 5 = .ok (.iload_n 0, 1) := by decide +kernel
theorem dJ9_min_7cf53_6 : decode cJ9_min_7cf53 6 = .ok (.goto 4, 3) := by decide +kernel
theorem dJ9_min_7cf53_9 : decode cJ9_min_7cf53 9 = .ok (.iload_n 1, 1) := by decide +kernel
theorem dJ9_min_7cf53_10 : decode cJ9_min_7cf53 10 = .ok (.ireturn, 1) := by decide +kernel
