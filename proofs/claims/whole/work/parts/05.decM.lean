theorem dX9_init_0 : decode cX9_init 0 = .ok (.aload_n 0, 1) := by decide +kernel
theorem dX9_init_1 : decode cX9_init 1 = .ok (.invokespecial 1, 3) := by decide +kernel
theorem dX9_init_4 : decode cX9_init 4 = .ok (.aload_n 0, 1) := by decide +kernel
theorem dX9_init_5 : decode cX9_init 5 = .ok (.sipush 212, 3) := by decide +kernel
theorem dX9_init_8 : decode cX9_init 8 = .ok (.newarray .int, 2) := by decide +kernel
theorem dX9_init_10 : decode cX9_init 10 = .ok (.putfield 9, 3) := by decide +kernel
theorem dX9_init_13 : decode cX9_init 13 = .ok (.aload_n 0, 1) := by decide +kernel
theorem dX9_init_14 : decode cX9_init 14 = .ok (.sipush 212, 3) := by decide +kernel
theorem dX9_init_17 : decode cX9_init 17 = .ok (.newarray .int, 2) := by decide +kernel
theorem dX9_init_19 : decode cX9_init 19 = .ok (.putfield 13, 3) := by decide +kernel
theorem dX9_init_22 : decode cX9_init 22 = .ok (.aload_n 0, 1) := by decide +kernel
theorem dX9_init_23 : decode cX9_init 23 = .ok (.sipush 212, 3) := by decide +kernel
theorem dX9_init_26 : decode cX9_init 26 = .ok (.newarray .int, 2) := by decide +kernel
theorem dX9_init_28 : decode cX9_init 28 = .ok (.putfield 16, 3) := by decide +kernel
theorem dX9_init_31 : decode cX9_init 31 = .ok (.aload_n 0, 1) := by decide +kernel
theorem dX9_init_32 : decode cX9_init 32 = .ok (.sipush 212, 3) := by decide +kernel
theorem dX9_init_35 : decode cX9_init 35 = .ok (.newarray .int, 2) := by decide +kernel
theorem dX9_init_37 : decode cX9_init 37 = .ok (.putfield 19, 3) := by decide +kernel
theorem dX9_init_40 : decode cX9_init 40 = .ok (.aload_n 0, 1) := by decide +kernel
theorem dX9_init_41 : decode cX9_init 41 = .ok (.sipush 1696, 3) := by decide +kernel
theorem dX9_init_44 : decode cX9_init 44 = .ok (.newarray .int, 2) := by decide +kernel
theorem dX9_init_46 : decode cX9_init 46 = .ok (.putfield 22, 3) := by decide +kernel
theorem dX9_init_49 : decode cX9_init 49 = .ok (.aload_n 0, 1) := by decide +kernel
theorem dX9_init_50 : decode cX9_init 50 = .ok (.iconst (-1), 1) := by decide +kernel
theorem dX9_init_51 : decode cX9_init 51 = .ok (.putfield 25, 3) := by decide +kernel
theorem dX9_init_54 : decode cX9_init 54 = .ok (.aload_n 0, 1) := by decide +kernel
theorem dX9_init_55 : decode cX9_init 55 = .ok (.bipush 60, 2) := by decide +kernel
theorem dX9_init_57 : decode cX9_init 57 = .ok (.newarray .int, 2) := by decide +kernel
theorem dX9_init_59 : decode cX9_init 59 = .ok (.putfield 29, 3) := by decide +kernel
theorem dX9_init_62 : decode cX9_init 62 = .ok (.aload_n 0, 1) := by decide +kernel
theorem dX9_init_63 : decode cX9_init 63 = .ok (.sipush 160, 3) := by decide +kernel
theorem dX9_init_66 : decode cX9_init 66 = .ok (.newarray .int, 2) := by decide +kernel
theorem dX9_init_68 : decode cX9_init 68 = .ok (.putfield 32, 3) := by decide +kernel
theorem dX9_init_71 : decode cX9_init 71 = .ok (.aload_n 0, 1) := by decide +kernel
theorem dX9_init_72 : decode cX9_init 72 = .ok (.sipush 244, 3) := by decide +kernel
theorem dX9_init_75 : decode cX9_init 75 = .ok (.newarray .int, 2) := by decide +kernel
theorem dX9_init_77 : decode cX9_init 77 = .ok (.putfield 35, 3) := by decide +kernel
theorem dX9_init_80 : decode cX9_init 80 = .ok (.aload_n 0, 1) := by decide +kernel
theorem dX9_init_81 : decode cX9_init 81 = .ok (.getfield 9, 3) := by decide +kernel
theorem dX9_init_84 : decode cX9_init 84 = .ok (.bipush 6, 2) := by decide +kernel
theorem dX9_init_86 : decode cX9_init 86 = .ok (.iconst 1, 1) := by decide +kernel
theorem dX9_init_87 : decode cX9_init 87 = .ok (.iastore, 1) := by decide +kernel
theorem dX9_init_88 : decode cX9_init 88 = .ok (.return_, 1) := by decide +kernel
theorem dX9_thrown_0 : decode cX9_thrown 0 = .ok (.aload_n 0, 1) := by decide +kernel
theorem dX9_thrown_1 : decode cX9_thrown 1 = .ok (.getfield 38, 3) := by decide +kernel
theorem dX9_thrown_4 : decode cX9_thrown 4 = .ok (.ireturn, 1) := by decide +kernel
theorem dX9_throwing_0 : decode cX9_throwing 0 = .ok (.aload_n 0, 1) := by decide +kernel
theorem dX9_throwing_1 : decode cX9_throwing 1 = .ok (.iload_n 1, 1) := by decide +kernel
theorem dX9_throwing_2 : decode cX9_throwing 2 = .ok (.putfield 38, 3) := by decide +kernel
theorem dX9_throwing_5 : decode cX9_throwing 5 = .ok (.iconst (-1), 1) := by decide +kernel
theorem dX9_throwing_6 : decode cX9_throwing 6 = .ok (.ireturn, 1) := by decide +kernel
theorem dX9_rejecting_0 : decode cX9_rejecting 0 = .ok (.aload_n 0, 1) := by decide +kernel
theorem dX9_rejecting_1 : decode cX9_rejecting 1 = .ok (.iload_n 2, 1) := by decide +kernel
theorem dX9_rejecting_2 : decode cX9_rejecting 2 = .ok (.putfield 41, 3) := by decide +kernel
theorem dX9_rejecting_5 : decode cX9_rejecting 5 = .ok (.aload_n 0, 1) := by decide +kernel
theorem dX9_rejecting_6 : decode cX9_rejecting 6 = .ok (.iload_n 3, 1) := by decide +kernel
theorem dX9_rejecting_7 : decode cX9_rejecting 7 = .ok (.putfield 44, 3) := by decide +kernel
theorem dX9_rejecting_10 : decode cX9_rejecting 10 = .ok (.aload_n 0, 1) := by decide +kernel
theorem dX9_rejecting_11 : decode cX9_rejecting 11 = .ok (.iload_n 1, 1) := by decide +kernel
theorem dX9_rejecting_12 : decode cX9_rejecting 12 = .ok (.invokevirtual 47, 3) := by decide +kernel
theorem dX9_rejecting_15 : decode cX9_rejecting 15 = .ok (.ireturn, 1) := by decide +kernel
theorem dX9_in_0 : decode cX9_in 0 = .ok (.lload_n 0, 1) := by decide +kernel
theorem dX9_in_1 : decode cX9_in 1 = .ok (.lload_n 2, 1) := by decide +kernel
theorem dX9_in_2 : decode cX9_in 2 = .ok (.lcmp, 1) := by decide +kernel
theorem dX9_in_3 : decode cX9_in 3 = .ok (.ifCond .lt 14, 3) := by decide +kernel
theorem dX9_in_6 : decode cX9_in 6 = .ok (.lload_n 0, 1) := by decide +kernel
theorem dX9_in_7 : decode cX9_in 7 = .ok (.lload 4, 2) := by decide +kernel
theorem dX9_in_9 : decode cX9_in 9 = .ok (.lcmp, 1) := by decide +kernel
theorem dX9_in_10 : decode cX9_in 10 = .ok (.ifCond .gt 7, 3) := by decide +kernel
theorem dX9_in_13 : decode cX9_in 13 = .ok (.iconst 1, 1) := by decide +kernel
theorem dX9_in_14 : decode cX9_in 14 = .ok (.goto 4, 3) := by decide +kernel
theorem dX9_in_17 : decode cX9_in 17 = .ok (.iconst 0, 1) := by decide +kernel
theorem dX9_in_18 : decode cX9_in 18 = .ok (.ireturn, 1) := by decide +kernel
theorem dX9_starts_0 : decode cX9_starts 0 = .ok (.aload_n 0, 1) := by decide +kernel
theorem dX9_starts_1 : decode cX9_starts 1 = .ok (.iconst 0, 1) := by decide +kernel
theorem dX9_starts_2 : decode cX9_starts 2 = .ok (.putfield 38, 3) := by decide +kernel
theorem dX9_starts_5 : decode cX9_starts 5 = .ok (.aload_n 0, 1) := by decide +kernel
theorem dX9_starts_6 : decode cX9_starts 6 = .ok (.iconst 0, 1) := by decide +kernel
theorem dX9_starts_7 : decode cX9_starts 7 = .ok (.putfield 41, 3) := by decide +kernel
theorem dX9_starts_10 : decode cX9_starts 10 = .ok (.iconst 0, 1) := by decide +kernel
theorem dX9_starts_11 : decode cX9_starts 11 = .ok (.istore_n 1, 1) := by decide +kernel
theorem dX9_starts_12 : decode cX9_starts 12 = .ok (.iload_n 1, 1) := by decide +kernel
theorem dX9_starts_13 : decode cX9_starts 13 = .ok (.sipush 212, 3) := by decide +kernel
theorem dX9_starts_16 : decode cX9_starts 16 = .ok (.if_icmp .ge 21, 3) := by decide +kernel
theorem dX9_starts_19 : decode cX9_starts 19 = .ok (.aload_n 0, 1) := by decide +kernel
theorem dX9_starts_20 : decode cX9_starts 20 = .ok (.getfield 13, 3) := by decide +kernel
theorem dX9_starts_23 : decode cX9_starts 23 = .ok (.iload_n 1, 1) := by decide +kernel
theorem dX9_starts_24 : decode cX9_starts 24 = .ok (.aload_n 0, 1) := by decide +kernel
theorem dX9_starts_25 : decode cX9_starts 25 = .ok (.getfield 9, 3) := by decide +kernel
theorem dX9_starts_28 : decode cX9_starts 28 = .ok (.iload_n 1, 1) := by decide +kernel
theorem dX9_starts_29 : decode cX9_starts 29 = .ok (.iaload, 1) := by decide +kernel
theorem dX9_starts_30 : decode cX9_starts 30 = .ok (.iastore, 1) := by decide +kernel
theorem dX9_starts_31 : decode cX9_starts 31 = .ok (.iinc 1 1, 3) := by decide +kernel
theorem dX9_starts_34 : decode cX9_starts 34 = .ok (.goto (-22), 3) := by decide +kernel
theorem dX9_starts_37 : decode cX9_starts 37 = .ok (.return_, 1) := by decide +kernel
theorem dX9_changed_0 : decode cX9_changed 0 = .ok (.aload_n 0, 1) := by decide +kernel
theorem dX9_changed_1 : decode cX9_changed 1 = .ok (.getfield 38, 3) := by decide +kernel
theorem dX9_changed_4 : decode cX9_changed 4 = .ok (.ifCond .le 33, 3) := by decide +kernel
theorem dX9_changed_7 : decode cX9_changed 7 = .ok (.aload_n 0, 1) := by decide +kernel
theorem dX9_changed_8 : decode cX9_changed 8 = .ok (.getfield 41, 3) := by decide +kernel
theorem dX9_changed_11 : decode cX9_changed 11 = .ok (.ifCond .le 24, 3) := by decide +kernel
theorem dX9_changed_14 : decode cX9_changed 14 = .ok (.aload_n 0, 1) := by decide +kernel
theorem dX9_changed_15 : decode cX9_changed 15 = .ok (.aload_n 0, 1) := by decide +kernel
theorem dX9_changed_16 : decode cX9_changed 16 = .ok (.getfield 41, 3) := by decide +kernel
theorem dX9_changed_19 : decode cX9_changed 19 = .ok (.putfield 51, 3) := by decide +kernel
theorem dX9_changed_22 : decode cX9_changed 22 = .ok (.aload_n 0, 1) := by decide +kernel
theorem dX9_changed_23 : decode cX9_changed 23 = .ok (.aload_n 0, 1) := by decide +kernel
theorem dX9_changed_24 : decode cX9_changed 24 = .ok (.getfield 44, 3) := by decide +kernel
theorem dX9_changed_27 : decode cX9_changed 27 = .ok (.putfield 54, 3) := by decide +kernel
theorem dX9_changed_30 : decode cX9_changed 30 = .ok (.aload_n 0, 1) := by decide +kernel
theorem dX9_changed_31 : decode cX9_changed 31 = .ok (.iconst 0, 1) := by decide +kernel
theorem dX9_changed_32 : decode cX9_changed 32 = .ok (.putfield 57, 3) := by decide +kernel
theorem dX9_changed_35 : decode cX9_changed 35 = .ok (.iload_n 1, 1) := by decide +kernel
theorem dX9_changed_36 : decode cX9_changed 36 = .ok (.ireturn, 1) := by decide +kernel
theorem dX9_changed_37 : decode cX9_changed 37 = .ok (.aload_n 0, 1) := by decide +kernel
theorem dX9_changed_38 : decode cX9_changed 38 = .ok (.getfield 60, 3) := by decide +kernel
theorem dX9_changed_41 : decode cX9_changed 41 = .ok (.bipush 8, 2) := by decide +kernel
theorem dX9_changed_43 : decode cX9_changed 43 = .ok (.if_icmp .ne 44, 3) := by decide +kernel
theorem dX9_changed_46 : decode cX9_changed 46 = .ok (.iconst 0, 1) := by decide +kernel
theorem dX9_changed_47 : decode cX9_changed 47 = .ok (.istore_n 2, 1) := by decide +kernel
theorem dX9_changed_48 : decode cX9_changed 48 = .ok (.iload_n 2, 1) := by decide +kernel
theorem dX9_changed_49 : decode cX9_changed 49 = .ok (.sipush 1484, 3) := by decide +kernel
theorem dX9_changed_52 : decode cX9_changed 52 = .ok (.if_icmp .ge 25, 3) := by decide +kernel
theorem dX9_changed_55 : decode cX9_changed 55 = .ok (.aload_n 0, 1) := by decide +kernel
theorem dX9_changed_56 : decode cX9_changed 56 = .ok (.getfield 22, 3) := by decide +kernel
theorem dX9_changed_59 : decode cX9_changed 59 = .ok (.iload_n 2, 1) := by decide +kernel
theorem dX9_changed_60 : decode cX9_changed 60 = .ok (.aload_n 0, 1) := by decide +kernel
theorem dX9_changed_61 : decode cX9_changed 61 = .ok (.getfield 22, 3) := by decide +kernel
theorem dX9_changed_64 : decode cX9_changed 64 = .ok (.iload_n 2, 1) := by decide +kernel
theorem dX9_changed_65 : decode cX9_changed 65 = .ok (.sipush 212, 3) := by decide +kernel
theorem dX9_changed_68 : decode cX9_changed 68 = .ok (.iadd, 1) := by decide +kernel
theorem dX9_changed_69 : decode cX9_changed 69 = .ok (.iaload, 1) := by decide +kernel
theorem dX9_changed_70 : decode cX9_changed 70 = .ok (.iastore, 1) := by decide +kernel
theorem dX9_changed_71 : decode cX9_changed 71 = .ok (.iinc 2 1, 3) := by decide +kernel
theorem dX9_changed_74 : decode cX9_changed 74 = .ok (.goto (-26), 3) := by decide +kernel
theorem dX9_changed_77 : decode cX9_changed 77 = .ok (.aload_n 0, 1) := by decide +kernel
theorem dX9_changed_78 : decode cX9_changed 78 = .ok (.dup, 1) := by decide +kernel
theorem dX9_changed_79 : decode cX9_changed 79 = .ok (.getfield 60, 3) := by decide +kernel
theorem dX9_changed_82 : decode cX9_changed 82 = .ok (.iconst 1, 1) := by decide +kernel
theorem dX9_changed_83 : decode cX9_changed 83 = .ok (.isub, 1) := by decide +kernel
theorem dX9_changed_84 : decode cX9_changed 84 = .ok (.putfield 60, 3) := by decide +kernel
theorem dX9_changed_87 : decode cX9_changed 87 = .ok (.iconst 0, 1) := by decide +kernel
theorem dX9_changed_88 : decode cX9_changed 88 = .ok (.istore_n 2, 1) := by decide +kernel
theorem dX9_changed_89 : decode cX9_changed 89 = .ok (.iload_n 2, 1) := by decide +kernel
theorem dX9_changed_90 : decode cX9_changed 90 = .ok (.sipush 212, 3) := by decide +kernel
theorem dX9_changed_93 : decode cX9_changed 93 = .ok (.if_icmp .ge 30, 3) := by decide +kernel
theorem dX9_changed_96 : decode cX9_changed 96 = .ok (.aload_n 0, 1) := by decide +kernel
theorem dX9_changed_97 : decode cX9_changed 97 = .ok (.getfield 22, 3) := by decide +kernel
theorem dX9_changed_100 : decode cX9_changed 100 = .ok (.sipush 212, 3) := by decide +kernel
theorem dX9_changed_103 : decode cX9_changed 103 = .ok (.aload_n 0, 1) := by decide +kernel
theorem dX9_changed_104 : decode cX9_changed 104 = .ok (.getfield 60, 3) := by decide +kernel
theorem dX9_changed_107 : decode cX9_changed 107 = .ok (.imul, 1) := by decide +kernel
theorem dX9_changed_108 : decode cX9_changed 108 = .ok (.iload_n 2, 1) := by decide +kernel
theorem dX9_changed_109 : decode cX9_changed 109 = .ok (.iadd, 1) := by decide +kernel
theorem dX9_changed_110 : decode cX9_changed 110 = .ok (.aload_n 0, 1) := by decide +kernel
theorem dX9_changed_111 : decode cX9_changed 111 = .ok (.getfield 13, 3) := by decide +kernel
theorem dX9_changed_114 : decode cX9_changed 114 = .ok (.iload_n 2, 1) := by decide +kernel
theorem dX9_changed_115 : decode cX9_changed 115 = .ok (.iaload, 1) := by decide +kernel
theorem dX9_changed_116 : decode cX9_changed 116 = .ok (.iastore, 1) := by decide +kernel
theorem dX9_changed_117 : decode cX9_changed 117 = .ok (.iinc 2 1, 3) := by decide +kernel
theorem dX9_changed_120 : decode cX9_changed 120 = .ok (.goto (-31), 3) := by decide +kernel
theorem dX9_changed_123 : decode cX9_changed 123 = .ok (.aload_n 0, 1) := by decide +kernel
theorem dX9_changed_124 : decode cX9_changed 124 = .ok (.dup, 1) := by decide +kernel
theorem dX9_changed_125 : decode cX9_changed 125 = .ok (.getfield 60, 3) := by decide +kernel
theorem dX9_changed_128 : decode cX9_changed 128 = .ok (.iconst 1, 1) := by decide +kernel
theorem dX9_changed_129 : decode cX9_changed 129 = .ok (.iadd, 1) := by decide +kernel
theorem dX9_changed_130 : decode cX9_changed 130 = .ok (.putfield 60, 3) := by decide +kernel
theorem dX9_changed_133 : decode cX9_changed 133 = .ok (.iload_n 1, 1) := by decide +kernel
theorem dX9_changed_134 : decode cX9_changed 134 = .ok (.ireturn, 1) := by decide +kernel
theorem dX9_shipAt_0 : decode cX9_shipAt 0 = .ok (.bipush 14, 2) := by decide +kernel
theorem dX9_shipAt_2 : decode cX9_shipAt 2 = .ok (.iconst 2, 1) := by decide +kernel
theorem dX9_shipAt_3 : decode cX9_shipAt 3 = .ok (.iload_n 0, 1) := by decide +kernel
theorem dX9_shipAt_4 : decode cX9_shipAt 4 = .ok (.imul, 1) := by decide +kernel
theorem dX9_shipAt_5 : decode cX9_shipAt 5 = .ok (.iadd, 1) := by decide +kernel
theorem dX9_shipAt_6 : decode cX9_shipAt 6 = .ok (.ireturn, 1) := by decide +kernel
theorem dX9_barnacleAtPlace_0 : decode cX9_barnacleAtPlace 0 = .ok (.bipush 26, 2) := by decide +kernel
theorem dX9_barnacleAtPlace_2 : decode cX9_barnacleAtPlace 2 = .ok (.iconst 2, 1) := by decide +kernel
theorem dX9_barnacleAtPlace_3 : decode cX9_barnacleAtPlace 3 = .ok (.iload_n 0, 1) := by decide +kernel
theorem dX9_barnacleAtPlace_4 : decode cX9_barnacleAtPlace 4 = .ok (.imul, 1) := by decide +kernel
theorem dX9_barnacleAtPlace_5 : decode cX9_barnacleAtPlace 5 = .ok (.iadd, 1) := by decide +kernel
theorem dX9_barnacleAtPlace_6 : decode cX9_barnacleAtPlace 6 = .ok (.ireturn, 1) := by decide +kernel
theorem dX9_bidAtPlace_0 : decode cX9_bidAtPlace 0 = .ok (.bipush 58, 2) := by decide +kernel
theorem dX9_bidAtPlace_2 : decode cX9_bidAtPlace 2 = .ok (.iconst 5, 1) := by decide +kernel
theorem dX9_bidAtPlace_3 : decode cX9_bidAtPlace 3 = .ok (.iload_n 0, 1) := by decide +kernel
theorem dX9_bidAtPlace_4 : decode cX9_bidAtPlace 4 = .ok (.imul, 1) := by decide +kernel
theorem dX9_bidAtPlace_5 : decode cX9_bidAtPlace 5 = .ok (.iadd, 1) := by decide +kernel
theorem dX9_bidAtPlace_6 : decode cX9_bidAtPlace 6 = .ok (.ireturn, 1) := by decide +kernel
theorem dX9_offerAtPlace_0 : decode cX9_offerAtPlace 0 = .ok (.bipush 108, 2) := by decide +kernel
theorem dX9_offerAtPlace_2 : decode cX9_offerAtPlace 2 = .ok (.iconst 4, 1) := by decide +kernel
theorem dX9_offerAtPlace_3 : decode cX9_offerAtPlace 3 = .ok (.iload_n 0, 1) := by decide +kernel
theorem dX9_offerAtPlace_4 : decode cX9_offerAtPlace 4 = .ok (.imul, 1) := by decide +kernel
theorem dX9_offerAtPlace_5 : decode cX9_offerAtPlace 5 = .ok (.iadd, 1) := by decide +kernel
theorem dX9_offerAtPlace_6 : decode cX9_offerAtPlace 6 = .ok (.ireturn, 1) := by decide +kernel
theorem dX9_isShip_0 : decode cX9_isShip 0 = .ok (.iload_n 1, 1) := by decide +kernel
theorem dX9_isShip_1 : decode cX9_isShip 1 = .ok (.i2l, 1) := by decide +kernel
theorem dX9_isShip_2 : decode cX9_isShip 2 = .ok (.lconst 0, 1) := by decide +kernel
theorem dX9_isShip_3 : decode cX9_isShip 3 = .ok (.aload_n 0, 1) := by decide +kernel
theorem dX9_isShip_4 : decode cX9_isShip 4 = .ok (.getfield 9, 3) := by decide +kernel
theorem dX9_isShip_7 : decode cX9_isShip 7 = .ok (.iconst 0, 1) := by decide +kernel
theorem dX9_isShip_8 : decode cX9_isShip 8 = .ok (.iaload, 1) := by decide +kernel
theorem dX9_isShip_9 : decode cX9_isShip 9 = .ok (.iconst 1, 1) := by decide +kernel
theorem dX9_isShip_10 : decode cX9_isShip 10 = .ok (.isub, 1) := by decide +kernel
theorem dX9_isShip_11 : decode cX9_isShip 11 = .ok (.i2l, 1) := by decide +kernel
theorem dX9_isShip_12 : decode cX9_isShip 12 = .ok (.invokestatic 63, 3) := by decide +kernel
theorem dX9_isShip_15 : decode cX9_isShip 15 = .ok (.ireturn, 1) := by decide +kernel
theorem dX9_isBarnacle_0 : decode cX9_isBarnacle 0 = .ok (.iload_n 1, 1) := by decide +kernel
theorem dX9_isBarnacle_1 : decode cX9_isBarnacle 1 = .ok (.i2l, 1) := by decide +kernel
theorem dX9_isBarnacle_2 : decode cX9_isBarnacle 2 = .ok (.lconst 0, 1) := by decide +kernel
theorem dX9_isBarnacle_3 : decode cX9_isBarnacle 3 = .ok (.aload_n 0, 1) := by decide +kernel
theorem dX9_isBarnacle_4 : decode cX9_isBarnacle 4 = .ok (.getfield 9, 3) := by decide +kernel
theorem dX9_isBarnacle_7 : decode cX9_isBarnacle 7 = .ok (.iconst 1, 1) := by decide +kernel
theorem dX9_isBarnacle_8 : decode cX9_isBarnacle 8 = .ok (.iaload, 1) := by decide +kernel
theorem dX9_isBarnacle_9 : decode cX9_isBarnacle 9 = .ok (.iconst 1, 1) := by decide +kernel
theorem dX9_isBarnacle_10 : decode cX9_isBarnacle 10 = .ok (.isub, 1) := by decide +kernel
theorem dX9_isBarnacle_11 : decode cX9_isBarnacle 11 = .ok (.i2l, 1) := by decide +kernel
theorem dX9_isBarnacle_12 : decode cX9_isBarnacle 12 = .ok (.invokestatic 63, 3) := by decide +kernel
theorem dX9_isBarnacle_15 : decode cX9_isBarnacle 15 = .ok (.ireturn, 1) := by decide +kernel
theorem dX9_capacity_0 : decode cX9_capacity 0 = .ok (.aload_n 0, 1) := by decide +kernel
theorem dX9_capacity_1 : decode cX9_capacity 1 = .ok (.getfield 9, 3) := by decide +kernel
theorem dX9_capacity_4 : decode cX9_capacity 4 = .ok (.iload_n 1, 1) := by decide +kernel
theorem dX9_capacity_5 : decode cX9_capacity 5 = .ok (.invokestatic 67, 3) := by decide +kernel
theorem dX9_capacity_8 : decode cX9_capacity 8 = .ok (.iconst 1, 1) := by decide +kernel
theorem dX9_capacity_9 : decode cX9_capacity 9 = .ok (.iadd, 1) := by decide +kernel
theorem dX9_capacity_10 : decode cX9_capacity 10 = .ok (.iaload, 1) := by decide +kernel
theorem dX9_capacity_11 : decode cX9_capacity 11 = .ok (.ireturn, 1) := by decide +kernel
theorem dX9_load_0 : decode cX9_load 0 = .ok (.iconst 0, 1) := by decide +kernel
theorem dX9_load_1 : decode cX9_load 1 = .ok (.istore_n 2, 1) := by decide +kernel
theorem dX9_load_2 : decode cX9_load 2 = .ok (.iconst 0, 1) := by decide +kernel
theorem dX9_load_3 : decode cX9_load 3 = .ok (.istore_n 3, 1) := by decide +kernel
theorem dX9_load_4 : decode cX9_load 4 = .ok (.iload_n 3, 1) := by decide +kernel
theorem dX9_load_5 : decode cX9_load 5 = .ok (.aload_n 0, 1) := by decide +kernel
theorem dX9_load_6 : decode cX9_load 6 = .ok (.getfield 9, 3) := by decide +kernel
theorem dX9_load_9 : decode cX9_load 9 = .ok (.iconst 1, 1) := by decide +kernel
theorem dX9_load_10 : decode cX9_load 10 = .ok (.iaload, 1) := by decide +kernel
theorem dX9_load_11 : decode cX9_load 11 = .ok (.if_icmp .ge 30, 3) := by decide +kernel
theorem dX9_load_14 : decode cX9_load 14 = .ok (.iload_n 2, 1) := by decide +kernel
theorem dX9_load_15 : decode cX9_load 15 = .ok (.aload_n 0, 1) := by decide +kernel
theorem dX9_load_16 : decode cX9_load 16 = .ok (.getfield 9, 3) := by decide +kernel
theorem dX9_load_19 : decode cX9_load 19 = .ok (.iload_n 3, 1) := by decide +kernel
theorem dX9_load_20 : decode cX9_load 20 = .ok (.invokestatic 70, 3) := by decide +kernel
theorem dX9_load_23 : decode cX9_load 23 = .ok (.iaload, 1) := by decide +kernel
theorem dX9_load_24 : decode cX9_load 24 = .ok (.iload_n 1, 1) := by decide +kernel
theorem dX9_load_25 : decode cX9_load 25 = .ok (.if_icmp .ne 7, 3) := by decide +kernel
theorem dX9_load_28 : decode cX9_load 28 = .ok (.iconst 1, 1) := by decide +kernel
theorem dX9_load_29 : decode cX9_load 29 = .ok (.goto 4, 3) := by decide +kernel
theorem dX9_load_32 : decode cX9_load 32 = .ok (.iconst 0, 1) := by decide +kernel
theorem dX9_load_33 : decode cX9_load 33 = .ok (.iadd, 1) := by decide +kernel
theorem dX9_load_34 : decode cX9_load 34 = .ok (.istore_n 2, 1) := by decide +kernel
theorem dX9_load_35 : decode cX9_load 35 = .ok (.iinc 3 1, 3) := by decide +kernel
theorem dX9_load_38 : decode cX9_load 38 = .ok (.goto (-34), 3) := by decide +kernel
theorem dX9_load_41 : decode cX9_load 41 = .ok (.iload_n 2, 1) := by decide +kernel
theorem dX9_load_42 : decode cX9_load 42 = .ok (.ireturn, 1) := by decide +kernel
theorem dX9_reserved_0 : decode cX9_reserved 0 = .ok (.iconst 0, 1) := by decide +kernel
theorem dX9_reserved_1 : decode cX9_reserved 1 = .ok (.istore_n 2, 1) := by decide +kernel
theorem dX9_reserved_2 : decode cX9_reserved 2 = .ok (.iconst 0, 1) := by decide +kernel
theorem dX9_reserved_3 : decode cX9_reserved 3 = .ok (.istore_n 3, 1) := by decide +kernel
theorem dX9_reserved_4 : decode cX9_reserved 4 = .ok (.iload_n 3, 1) := by decide +kernel
theorem dX9_reserved_5 : decode cX9_reserved 5 = .ok (.aload_n 0, 1) := by decide +kernel
theorem dX9_reserved_6 : decode cX9_reserved 6 = .ok (.getfield 9, 3) := by decide +kernel
theorem dX9_reserved_9 : decode cX9_reserved 9 = .ok (.iconst 2, 1) := by decide +kernel
theorem dX9_reserved_10 : decode cX9_reserved 10 = .ok (.iaload, 1) := by decide +kernel
theorem dX9_reserved_11 : decode cX9_reserved 11 = .ok (.if_icmp .ge 42, 3) := by decide +kernel
theorem dX9_reserved_14 : decode cX9_reserved 14 = .ok (.iload_n 2, 1) := by decide +kernel
theorem dX9_reserved_15 : decode cX9_reserved 15 = .ok (.aload_n 0, 1) := by decide +kernel
theorem dX9_reserved_16 : decode cX9_reserved 16 = .ok (.getfield 9, 3) := by decide +kernel
theorem dX9_reserved_19 : decode cX9_reserved 19 = .ok (.iload_n 3, 1) := by decide +kernel
theorem dX9_reserved_20 : decode cX9_reserved 20 = .ok (.invokestatic 73, 3) := by decide +kernel
theorem dX9_reserved_23 : decode cX9_reserved 23 = .ok (.iconst 1, 1) := by decide +kernel
theorem dX9_reserved_24 : decode cX9_reserved 24 = .ok (.iadd, 1) := by decide +kernel
theorem dX9_reserved_25 : decode cX9_reserved 25 = .ok (.iaload, 1) := by decide +kernel
theorem dX9_reserved_26 : decode cX9_reserved 26 = .ok (.iload_n 1, 1) := by decide +kernel
theorem dX9_reserved_27 : decode cX9_reserved 27 = .ok (.if_icmp .ne 17, 3) := by decide +kernel
theorem dX9_reserved_30 : decode cX9_reserved 30 = .ok (.aload_n 0, 1) := by decide +kernel
theorem dX9_reserved_31 : decode cX9_reserved 31 = .ok (.getfield 9, 3) := by decide +kernel
theorem dX9_reserved_34 : decode cX9_reserved 34 = .ok (.iload_n 3, 1) := by decide +kernel
theorem dX9_reserved_35 : decode cX9_reserved 35 = .ok (.invokestatic 73, 3) := by decide +kernel
theorem dX9_reserved_38 : decode cX9_reserved 38 = .ok (.iconst 3, 1) := by decide +kernel
theorem dX9_reserved_39 : decode cX9_reserved 39 = .ok (.iadd, 1) := by decide +kernel
theorem dX9_reserved_40 : decode cX9_reserved 40 = .ok (.iaload, 1) := by decide +kernel
theorem dX9_reserved_41 : decode cX9_reserved 41 = .ok (.goto 4, 3) := by decide +kernel
theorem dX9_reserved_44 : decode cX9_reserved 44 = .ok (.iconst 0, 1) := by decide +kernel
theorem dX9_reserved_45 : decode cX9_reserved 45 = .ok (.iadd, 1) := by decide +kernel
theorem dX9_reserved_46 : decode cX9_reserved 46 = .ok (.istore_n 2, 1) := by decide +kernel
theorem dX9_reserved_47 : decode cX9_reserved 47 = .ok (.iinc 3 1, 3) := by decide +kernel
theorem dX9_reserved_50 : decode cX9_reserved 50 = .ok (.goto (-46), 3) := by decide +kernel
theorem dX9_reserved_53 : decode cX9_reserved 53 = .ok (.iload_n 2, 1) := by decide +kernel
theorem dX9_reserved_54 : decode cX9_reserved 54 = .ok (.ireturn, 1) := by decide +kernel
theorem dX9_places_0 : decode cX9_places 0 = .ok (.aload_n 0, 1) := by decide +kernel
theorem dX9_places_1 : decode cX9_places 1 = .ok (.iload_n 1, 1) := by decide +kernel
theorem dX9_places_2 : decode cX9_places 2 = .ok (.invokevirtual 76, 3) := by decide +kernel
theorem dX9_places_5 : decode cX9_places 5 = .ok (.aload_n 0, 1) := by decide +kernel
theorem dX9_places_6 : decode cX9_places 6 = .ok (.iload_n 1, 1) := by decide +kernel
theorem dX9_places_7 : decode cX9_places 7 = .ok (.invokevirtual 79, 3) := by decide +kernel
theorem dX9_places_10 : decode cX9_places 10 = .ok (.isub, 1) := by decide +kernel
theorem dX9_places_11 : decode cX9_places 11 = .ok (.istore_n 2, 1) := by decide +kernel
theorem dX9_places_12 : decode cX9_places 12 = .ok (.iconst 0, 1) := by decide +kernel
theorem dX9_places_13 : decode cX9_places 13 = .ok (.istore_n 3, 1) := by decide +kernel
theorem dX9_places_14 : decode cX9_places 14 = .ok (.iload_n 3, 1) := by decide +kernel
theorem dX9_places_15 : decode cX9_places 15 = .ok (.aload_n 0, 1) := by decide +kernel
theorem dX9_places_16 : decode cX9_places 16 = .ok (.getfield 9, 3) := by decide +kernel
theorem dX9_places_19 : decode cX9_places 19 = .ok (.iconst 2, 1) := by decide +kernel
theorem dX9_places_20 : decode cX9_places 20 = .ok (.iaload, 1) := by decide +kernel
theorem dX9_places_21 : decode cX9_places 21 = .ok (.if_icmp .ge 32, 3) := by decide +kernel
theorem dX9_places_24 : decode cX9_places 24 = .ok (.iload_n 2, 1) := by decide +kernel
theorem dX9_places_25 : decode cX9_places 25 = .ok (.aload_n 0, 1) := by decide +kernel
theorem dX9_places_26 : decode cX9_places 26 = .ok (.getfield 9, 3) := by decide +kernel
theorem dX9_places_29 : decode cX9_places 29 = .ok (.iload_n 3, 1) := by decide +kernel
theorem dX9_places_30 : decode cX9_places 30 = .ok (.invokestatic 73, 3) := by decide +kernel
theorem dX9_places_33 : decode cX9_places 33 = .ok (.iconst 1, 1) := by decide +kernel
theorem dX9_places_34 : decode cX9_places 34 = .ok (.iadd, 1) := by decide +kernel
theorem dX9_places_35 : decode cX9_places 35 = .ok (.iaload, 1) := by decide +kernel
theorem dX9_places_36 : decode cX9_places 36 = .ok (.iload_n 1, 1) := by decide +kernel
theorem dX9_places_37 : decode cX9_places 37 = .ok (.if_icmp .ne 7, 3) := by decide +kernel
theorem dX9_places_40 : decode cX9_places 40 = .ok (.iconst 1, 1) := by decide +kernel
theorem dX9_places_41 : decode cX9_places 41 = .ok (.goto 4, 3) := by decide +kernel
theorem dX9_places_44 : decode cX9_places 44 = .ok (.iconst 0, 1) := by decide +kernel
theorem dX9_places_45 : decode cX9_places 45 = .ok (.isub, 1) := by decide +kernel
theorem dX9_places_46 : decode cX9_places 46 = .ok (.istore_n 2, 1) := by decide +kernel
theorem dX9_places_47 : decode cX9_places 47 = .ok (.iinc 3 1, 3) := by decide +kernel
theorem dX9_places_50 : decode cX9_places 50 = .ok (.goto (-36), 3) := by decide +kernel
theorem dX9_places_53 : decode cX9_places 53 = .ok (.iload_n 2, 1) := by decide +kernel
theorem dX9_places_54 : decode cX9_places 54 = .ok (.ireturn, 1) := by decide +kernel
theorem dX9_gradeOfBarnacle_0 : decode cX9_gradeOfBarnacle 0 = .ok (.aload_n 0, 1) := by decide +kernel
theorem dX9_gradeOfBarnacle_1 : decode cX9_gradeOfBarnacle 1 = .ok (.getfield 9, 3) := by decide +kernel
theorem dX9_gradeOfBarnacle_4 : decode cX9_gradeOfBarnacle 4 = .ok (.iload_n 1, 1) := by decide +kernel
theorem dX9_gradeOfBarnacle_5 : decode cX9_gradeOfBarnacle 5 = .ok (.invokestatic 70, 3) := by decide +kernel
theorem dX9_gradeOfBarnacle_8 : decode cX9_gradeOfBarnacle 8 = .ok (.iconst 1, 1) := by decide +kernel
theorem dX9_gradeOfBarnacle_9 : decode cX9_gradeOfBarnacle 9 = .ok (.iadd, 1) := by decide +kernel
theorem dX9_gradeOfBarnacle_10 : decode cX9_gradeOfBarnacle 10 = .ok (.iaload, 1) := by decide +kernel
theorem dX9_gradeOfBarnacle_11 : decode cX9_gradeOfBarnacle 11 = .ok (.ireturn, 1) := by decide +kernel
theorem dX9_offerFor_0 : decode cX9_offerFor 0 = .ok (.iconst 0, 1) := by decide +kernel
theorem dX9_offerFor_1 : decode cX9_offerFor 1 = .ok (.istore_n 2, 1) := by decide +kernel
theorem dX9_offerFor_2 : decode cX9_offerFor 2 = .ok (.iload_n 2, 1) := by decide +kernel
theorem dX9_offerFor_3 : decode cX9_offerFor 3 = .ok (.aload_n 0, 1) := by decide +kernel
theorem dX9_offerFor_4 : decode cX9_offerFor 4 = .ok (.getfield 9, 3) := by decide +kernel
theorem dX9_offerFor_7 : decode cX9_offerFor 7 = .ok (.iconst 3, 1) := by decide +kernel
theorem dX9_offerFor_8 : decode cX9_offerFor 8 = .ok (.iaload, 1) := by decide +kernel
theorem dX9_offerFor_9 : decode cX9_offerFor 9 = .ok (.if_icmp .ge 26, 3) := by decide +kernel
theorem dX9_offerFor_12 : decode cX9_offerFor 12 = .ok (.aload_n 0, 1) := by decide +kernel
theorem dX9_offerFor_13 : decode cX9_offerFor 13 = .ok (.getfield 9, 3) := by decide +kernel
theorem dX9_offerFor_16 : decode cX9_offerFor 16 = .ok (.iload_n 2, 1) := by decide +kernel
theorem dX9_offerFor_17 : decode cX9_offerFor 17 = .ok (.invokestatic 82, 3) := by decide +kernel
theorem dX9_offerFor_20 : decode cX9_offerFor 20 = .ok (.iconst 1, 1) := by decide +kernel
theorem dX9_offerFor_21 : decode cX9_offerFor 21 = .ok (.iadd, 1) := by decide +kernel
theorem dX9_offerFor_22 : decode cX9_offerFor 22 = .ok (.iaload, 1) := by decide +kernel
theorem dX9_offerFor_23 : decode cX9_offerFor 23 = .ok (.iload_n 1, 1) := by decide +kernel
theorem dX9_offerFor_24 : decode cX9_offerFor 24 = .ok (.if_icmp .ne 5, 3) := by decide +kernel
theorem dX9_offerFor_27 : decode cX9_offerFor 27 = .ok (.iload_n 2, 1) := by decide +kernel
theorem dX9_offerFor_28 : decode cX9_offerFor 28 = .ok (.ireturn, 1) := by decide +kernel
theorem dX9_offerFor_29 : decode cX9_offerFor 29 = .ok (.iinc 2 1, 3) := by decide +kernel
theorem dX9_offerFor_32 : decode cX9_offerFor 32 = .ok (.goto (-30), 3) := by decide +kernel
theorem dX9_offerFor_35 : decode cX9_offerFor 35 = .ok (.iconst (-1), 1) := by decide +kernel
theorem dX9_offerFor_36 : decode cX9_offerFor 36 = .ok (.ireturn, 1) := by decide +kernel
theorem dX9_isBidAhead_0 : decode cX9_isBidAhead 0 = .ok (.aload_n 0, 1) := by decide +kernel
theorem dX9_isBidAhead_1 : decode cX9_isBidAhead 1 = .ok (.getfield 9, 3) := by decide +kernel
theorem dX9_isBidAhead_4 : decode cX9_isBidAhead 4 = .ok (.iload_n 1, 1) := by decide +kernel
theorem dX9_isBidAhead_5 : decode cX9_isBidAhead 5 = .ok (.invokestatic 73, 3) := by decide +kernel
theorem dX9_isBidAhead_8 : decode cX9_isBidAhead 8 = .ok (.iconst 3, 1) := by decide +kernel
theorem dX9_isBidAhead_9 : decode cX9_isBidAhead 9 = .ok (.iadd, 1) := by decide +kernel
theorem dX9_isBidAhead_10 : decode cX9_isBidAhead 10 = .ok (.iaload, 1) := by decide +kernel
theorem dX9_isBidAhead_11 : decode cX9_isBidAhead 11 = .ok (.aload_n 0, 1) := by decide +kernel
theorem dX9_isBidAhead_12 : decode cX9_isBidAhead 12 = .ok (.getfield 9, 3) := by decide +kernel
theorem dX9_isBidAhead_15 : decode cX9_isBidAhead 15 = .ok (.iload_n 2, 1) := by decide +kernel
theorem dX9_isBidAhead_16 : decode cX9_isBidAhead 16 = .ok (.invokestatic 73, 3) := by decide +kernel
theorem dX9_isBidAhead_19 : decode cX9_isBidAhead 19 = .ok (.iconst 3, 1) := by decide +kernel
theorem dX9_isBidAhead_20 : decode cX9_isBidAhead 20 = .ok (.iadd, 1) := by decide +kernel
theorem dX9_isBidAhead_21 : decode cX9_isBidAhead 21 = .ok (.iaload, 1) := by decide +kernel
theorem dX9_isBidAhead_22 : decode cX9_isBidAhead 22 = .ok (.isub, 1) := by decide +kernel
theorem dX9_isBidAhead_23 : decode cX9_isBidAhead 23 = .ok (.istore_n 3, 1) := by decide +kernel
theorem dX9_isBidAhead_24 : decode cX9_isBidAhead 24 = .ok (.iload_n 3, 1) := by decide +kernel
theorem dX9_isBidAhead_25 : decode cX9_isBidAhead 25 = .ok (.ifCond .gt 28, 3) := by decide +kernel
theorem dX9_isBidAhead_28 : decode cX9_isBidAhead 28 = .ok (.iload_n 3, 1) := by decide +kernel
theorem dX9_isBidAhead_29 : decode cX9_isBidAhead 29 = .ok (.ifCond .ne 28, 3) := by decide +kernel
theorem dX9_isBidAhead_32 : decode cX9_isBidAhead 32 = .ok (.aload_n 0, 1) := by decide +kernel
theorem dX9_isBidAhead_33 : decode cX9_isBidAhead 33 = .ok (.getfield 9, 3) := by decide +kernel
theorem dX9_isBidAhead_36 : decode cX9_isBidAhead 36 = .ok (.iload_n 1, 1) := by decide +kernel
theorem dX9_isBidAhead_37 : decode cX9_isBidAhead 37 = .ok (.invokestatic 73, 3) := by decide +kernel
theorem dX9_isBidAhead_40 : decode cX9_isBidAhead 40 = .ok (.iaload, 1) := by decide +kernel
theorem dX9_isBidAhead_41 : decode cX9_isBidAhead 41 = .ok (.aload_n 0, 1) := by decide +kernel
theorem dX9_isBidAhead_42 : decode cX9_isBidAhead 42 = .ok (.getfield 9, 3) := by decide +kernel
theorem dX9_isBidAhead_45 : decode cX9_isBidAhead 45 = .ok (.iload_n 2, 1) := by decide +kernel
theorem dX9_isBidAhead_46 : decode cX9_isBidAhead 46 = .ok (.invokestatic 73, 3) := by decide +kernel
theorem dX9_isBidAhead_49 : decode cX9_isBidAhead 49 = .ok (.iaload, 1) := by decide +kernel
theorem dX9_isBidAhead_50 : decode cX9_isBidAhead 50 = .ok (.if_icmp .ge 7, 3) := by decide +kernel
theorem dX9_isBidAhead_53 : decode cX9_isBidAhead 53 = .ok (.iconst 1, 1) := by decide +kernel
theorem dX9_isBidAhead_54 : decode cX9_isBidAhead 54 = .ok (.goto 4, 3) := by decide +kernel
theorem dX9_isBidAhead_57 : decode cX9_isBidAhead 57 = .ok (.iconst 0, 1) := by decide +kernel
theorem dX9_isBidAhead_58 : decode cX9_isBidAhead 58 = .ok (.ireturn, 1) := by decide +kernel
theorem dX9_isOfferAhead_0 : decode cX9_isOfferAhead 0 = .ok (.iload_n 1, 1) := by decide +kernel
theorem dX9_isOfferAhead_1 : decode cX9_isOfferAhead 1 = .ok (.invokestatic 82, 3) := by decide +kernel
theorem dX9_isOfferAhead_4 : decode cX9_isOfferAhead 4 = .ok (.istore_n 3, 1) := by decide +kernel
theorem dX9_isOfferAhead_5 : decode cX9_isOfferAhead 5 = .ok (.iload_n 2, 1) := by decide +kernel
theorem dX9_isOfferAhead_6 : decode cX9_isOfferAhead 6 = .ok (.invokestatic 82, 3) := by decide +kernel
theorem dX9_isOfferAhead_9 : decode cX9_isOfferAhead 9 = .ok (.istore 4, 2) := by decide +kernel
theorem dX9_isOfferAhead_11 : decode cX9_isOfferAhead 11 = .ok (.aload_n 0, 1) := by decide +kernel
theorem dX9_isOfferAhead_12 : decode cX9_isOfferAhead 12 = .ok (.getfield 9, 3) := by decide +kernel
theorem dX9_isOfferAhead_15 : decode cX9_isOfferAhead 15 = .ok (.iload 4, 2) := by decide +kernel
theorem dX9_isOfferAhead_17 : decode cX9_isOfferAhead 17 = .ok (.iconst 2, 1) := by decide +kernel
theorem dX9_isOfferAhead_18 : decode cX9_isOfferAhead 18 = .ok (.iadd, 1) := by decide +kernel
theorem dX9_isOfferAhead_19 : decode cX9_isOfferAhead 19 = .ok (.iaload, 1) := by decide +kernel
theorem dX9_isOfferAhead_20 : decode cX9_isOfferAhead 20 = .ok (.aload_n 0, 1) := by decide +kernel
theorem dX9_isOfferAhead_21 : decode cX9_isOfferAhead 21 = .ok (.getfield 9, 3) := by decide +kernel
theorem dX9_isOfferAhead_24 : decode cX9_isOfferAhead 24 = .ok (.iload_n 3, 1) := by decide +kernel
theorem dX9_isOfferAhead_25 : decode cX9_isOfferAhead 25 = .ok (.iconst 2, 1) := by decide +kernel
theorem dX9_isOfferAhead_26 : decode cX9_isOfferAhead 26 = .ok (.iadd, 1) := by decide +kernel
theorem dX9_isOfferAhead_27 : decode cX9_isOfferAhead 27 = .ok (.iaload, 1) := by decide +kernel
theorem dX9_isOfferAhead_28 : decode cX9_isOfferAhead 28 = .ok (.isub, 1) := by decide +kernel
theorem dX9_isOfferAhead_29 : decode cX9_isOfferAhead 29 = .ok (.istore 5, 2) := by decide +kernel
theorem dX9_isOfferAhead_31 : decode cX9_isOfferAhead 31 = .ok (.iload 5, 2) := by decide +kernel
theorem dX9_isOfferAhead_33 : decode cX9_isOfferAhead 33 = .ok (.ifCond .ne 32, 3) := by decide +kernel
theorem dX9_isOfferAhead_36 : decode cX9_isOfferAhead 36 = .ok (.aload_n 0, 1) := by decide +kernel
theorem dX9_isOfferAhead_37 : decode cX9_isOfferAhead 37 = .ok (.aload_n 0, 1) := by decide +kernel
theorem dX9_isOfferAhead_38 : decode cX9_isOfferAhead 38 = .ok (.getfield 9, 3) := by decide +kernel
theorem dX9_isOfferAhead_41 : decode cX9_isOfferAhead 41 = .ok (.iload_n 3, 1) := by decide +kernel
theorem dX9_isOfferAhead_42 : decode cX9_isOfferAhead 42 = .ok (.iconst 1, 1) := by decide +kernel
theorem dX9_isOfferAhead_43 : decode cX9_isOfferAhead 43 = .ok (.iadd, 1) := by decide +kernel
theorem dX9_isOfferAhead_44 : decode cX9_isOfferAhead 44 = .ok (.iaload, 1) := by decide +kernel
theorem dX9_isOfferAhead_45 : decode cX9_isOfferAhead 45 = .ok (.invokevirtual 85, 3) := by decide +kernel
theorem dX9_isOfferAhead_48 : decode cX9_isOfferAhead 48 = .ok (.aload_n 0, 1) := by decide +kernel
theorem dX9_isOfferAhead_49 : decode cX9_isOfferAhead 49 = .ok (.aload_n 0, 1) := by decide +kernel
theorem dX9_isOfferAhead_50 : decode cX9_isOfferAhead 50 = .ok (.getfield 9, 3) := by decide +kernel
theorem dX9_isOfferAhead_53 : decode cX9_isOfferAhead 53 = .ok (.iload 4, 2) := by decide +kernel
theorem dX9_isOfferAhead_55 : decode cX9_isOfferAhead 55 = .ok (.iconst 1, 1) := by decide +kernel
theorem dX9_isOfferAhead_56 : decode cX9_isOfferAhead 56 = .ok (.iadd, 1) := by decide +kernel
theorem dX9_isOfferAhead_57 : decode cX9_isOfferAhead 57 = .ok (.iaload, 1) := by decide +kernel
theorem dX9_isOfferAhead_58 : decode cX9_isOfferAhead 58 = .ok (.invokevirtual 85, 3) := by decide +kernel
theorem dX9_isOfferAhead_61 : decode cX9_isOfferAhead 61 = .ok (.isub, 1) := by decide +kernel
theorem dX9_isOfferAhead_62 : decode cX9_isOfferAhead 62 = .ok (.goto 5, 3) := by decide +kernel
theorem dX9_isOfferAhead_65 : decode cX9_isOfferAhead 65 = .ok (.iload 5, 2) := by decide +kernel
theorem dX9_isOfferAhead_67 : decode cX9_isOfferAhead 67 = .ok (.istore 5, 2) := by decide +kernel
theorem dX9_isOfferAhead_69 : decode cX9_isOfferAhead 69 = .ok (.iload 5, 2) := by decide +kernel
theorem dX9_isOfferAhead_71 : decode cX9_isOfferAhead 71 = .ok (.ifCond .gt 24, 3) := by decide +kernel
theorem dX9_isOfferAhead_74 : decode cX9_isOfferAhead 74 = .ok (.iload 5, 2) := by decide +kernel
theorem dX9_isOfferAhead_76 : decode cX9_isOfferAhead 76 = .ok (.ifCond .ne 23, 3) := by decide +kernel
theorem dX9_isOfferAhead_79 : decode cX9_isOfferAhead 79 = .ok (.aload_n 0, 1) := by decide +kernel
theorem dX9_isOfferAhead_80 : decode cX9_isOfferAhead 80 = .ok (.getfield 9, 3) := by decide +kernel
theorem dX9_isOfferAhead_83 : decode cX9_isOfferAhead 83 = .ok (.iload_n 3, 1) := by decide +kernel
theorem dX9_isOfferAhead_84 : decode cX9_isOfferAhead 84 = .ok (.iaload, 1) := by decide +kernel
theorem dX9_isOfferAhead_85 : decode cX9_isOfferAhead 85 = .ok (.aload_n 0, 1) := by decide +kernel
theorem dX9_isOfferAhead_86 : decode cX9_isOfferAhead 86 = .ok (.getfield 9, 3) := by decide +kernel
theorem dX9_isOfferAhead_89 : decode cX9_isOfferAhead 89 = .ok (.iload 4, 2) := by decide +kernel
theorem dX9_isOfferAhead_91 : decode cX9_isOfferAhead 91 = .ok (.iaload, 1) := by decide +kernel
theorem dX9_isOfferAhead_92 : decode cX9_isOfferAhead 92 = .ok (.if_icmp .ge 7, 3) := by decide +kernel
theorem dX9_isOfferAhead_95 : decode cX9_isOfferAhead 95 = .ok (.iconst 1, 1) := by decide +kernel
theorem dX9_isOfferAhead_96 : decode cX9_isOfferAhead 96 = .ok (.goto 4, 3) := by decide +kernel
theorem dX9_isOfferAhead_99 : decode cX9_isOfferAhead 99 = .ok (.iconst 0, 1) := by decide +kernel
theorem dX9_isOfferAhead_100 : decode cX9_isOfferAhead 100 = .ok (.ireturn, 1) := by decide +kernel
theorem dX9_bidRanked_0 : decode cX9_bidRanked 0 = .ok (.iconst 0, 1) := by decide +kernel
theorem dX9_bidRanked_1 : decode cX9_bidRanked 1 = .ok (.istore_n 2, 1) := by decide +kernel
theorem dX9_bidRanked_2 : decode cX9_bidRanked 2 = .ok (.iload_n 2, 1) := by decide +kernel
theorem dX9_bidRanked_3 : decode cX9_bidRanked 3 = .ok (.aload_n 0, 1) := by decide +kernel
theorem dX9_bidRanked_4 : decode cX9_bidRanked 4 = .ok (.getfield 9, 3) := by decide +kernel
theorem dX9_bidRanked_7 : decode cX9_bidRanked 7 = .ok (.iconst 2, 1) := by decide +kernel
theorem dX9_bidRanked_8 : decode cX9_bidRanked 8 = .ok (.iaload, 1) := by decide +kernel
theorem dX9_bidRanked_9 : decode cX9_bidRanked 9 = .ok (.if_icmp .ge 56, 3) := by decide +kernel
theorem dX9_bidRanked_12 : decode cX9_bidRanked 12 = .ok (.iconst 0, 1) := by decide +kernel
theorem dX9_bidRanked_13 : decode cX9_bidRanked 13 = .ok (.istore_n 3, 1) := by decide +kernel
theorem dX9_bidRanked_14 : decode cX9_bidRanked 14 = .ok (.iconst 0, 1) := by decide +kernel
theorem dX9_bidRanked_15 : decode cX9_bidRanked 15 = .ok (.istore 4, 2) := by decide +kernel
theorem dX9_bidRanked_17 : decode cX9_bidRanked 17 = .ok (.iload 4, 2) := by decide +kernel
theorem dX9_bidRanked_19 : decode cX9_bidRanked 19 = .ok (.aload_n 0, 1) := by decide +kernel
theorem dX9_bidRanked_20 : decode cX9_bidRanked 20 = .ok (.getfield 9, 3) := by decide +kernel
theorem dX9_bidRanked_23 : decode cX9_bidRanked 23 = .ok (.iconst 2, 1) := by decide +kernel
theorem dX9_bidRanked_24 : decode cX9_bidRanked 24 = .ok (.iaload, 1) := by decide +kernel
theorem dX9_bidRanked_25 : decode cX9_bidRanked 25 = .ok (.if_icmp .ge 27, 3) := by decide +kernel
theorem dX9_bidRanked_28 : decode cX9_bidRanked 28 = .ok (.iload_n 3, 1) := by decide +kernel
theorem dX9_bidRanked_29 : decode cX9_bidRanked 29 = .ok (.aload_n 0, 1) := by decide +kernel
theorem dX9_bidRanked_30 : decode cX9_bidRanked 30 = .ok (.iload 4, 2) := by decide +kernel
theorem dX9_bidRanked_32 : decode cX9_bidRanked 32 = .ok (.iload_n 2, 1) := by decide +kernel
theorem dX9_bidRanked_33 : decode cX9_bidRanked 33 = .ok (.invokevirtual 88, 3) := by decide +kernel
theorem dX9_bidRanked_36 : decode cX9_bidRanked 36 = .ok (.ifCond .eq 7, 3) := by decide +kernel
theorem dX9_bidRanked_39 : decode cX9_bidRanked 39 = .ok (.iconst 1, 1) := by decide +kernel
theorem dX9_bidRanked_40 : decode cX9_bidRanked 40 = .ok (.goto 4, 3) := by decide +kernel
theorem dX9_bidRanked_43 : decode cX9_bidRanked 43 = .ok (.iconst 0, 1) := by decide +kernel
theorem dX9_bidRanked_44 : decode cX9_bidRanked 44 = .ok (.iadd, 1) := by decide +kernel
theorem dX9_bidRanked_45 : decode cX9_bidRanked 45 = .ok (.istore_n 3, 1) := by decide +kernel
theorem dX9_bidRanked_46 : decode cX9_bidRanked 46 = .ok (.iinc 4 1, 3) := by decide +kernel
theorem dX9_bidRanked_49 : decode cX9_bidRanked 49 = .ok (.goto (-32), 3) := by decide +kernel
theorem dX9_bidRanked_52 : decode cX9_bidRanked 52 = .ok (.iload_n 3, 1) := by decide +kernel
theorem dX9_bidRanked_53 : decode cX9_bidRanked 53 = .ok (.iload_n 1, 1) := by decide +kernel
theorem dX9_bidRanked_54 : decode cX9_bidRanked 54 = .ok (.if_icmp .ne 5, 3) := by decide +kernel
theorem dX9_bidRanked_57 : decode cX9_bidRanked 57 = .ok (.iload_n 2, 1) := by decide +kernel
theorem dX9_bidRanked_58 : decode cX9_bidRanked 58 = .ok (.ireturn, 1) := by decide +kernel
theorem dX9_bidRanked_59 : decode cX9_bidRanked 59 = .ok (.iinc 2 1, 3) := by decide +kernel
theorem dX9_bidRanked_62 : decode cX9_bidRanked 62 = .ok (.goto (-60), 3) := by decide +kernel
theorem dX9_bidRanked_65 : decode cX9_bidRanked 65 = .ok (.iconst (-1), 1) := by decide +kernel
theorem dX9_bidRanked_66 : decode cX9_bidRanked 66 = .ok (.ireturn, 1) := by decide +kernel
theorem dX9_offerRanked_0 : decode cX9_offerRanked 0 = .ok (.iconst 0, 1) := by decide +kernel
theorem dX9_offerRanked_1 : decode cX9_offerRanked 1 = .ok (.istore_n 2, 1) := by decide +kernel
theorem dX9_offerRanked_2 : decode cX9_offerRanked 2 = .ok (.iload_n 2, 1) := by decide +kernel
theorem dX9_offerRanked_3 : decode cX9_offerRanked 3 = .ok (.aload_n 0, 1) := by decide +kernel
theorem dX9_offerRanked_4 : decode cX9_offerRanked 4 = .ok (.getfield 9, 3) := by decide +kernel
theorem dX9_offerRanked_7 : decode cX9_offerRanked 7 = .ok (.iconst 3, 1) := by decide +kernel
theorem dX9_offerRanked_8 : decode cX9_offerRanked 8 = .ok (.iaload, 1) := by decide +kernel
theorem dX9_offerRanked_9 : decode cX9_offerRanked 9 = .ok (.if_icmp .ge 56, 3) := by decide +kernel
theorem dX9_offerRanked_12 : decode cX9_offerRanked 12 = .ok (.iconst 0, 1) := by decide +kernel
theorem dX9_offerRanked_13 : decode cX9_offerRanked 13 = .ok (.istore_n 3, 1) := by decide +kernel
theorem dX9_offerRanked_14 : decode cX9_offerRanked 14 = .ok (.iconst 0, 1) := by decide +kernel
theorem dX9_offerRanked_15 : decode cX9_offerRanked 15 = .ok (.istore 4, 2) := by decide +kernel
theorem dX9_offerRanked_17 : decode cX9_offerRanked 17 = .ok (.iload 4, 2) := by decide +kernel
theorem dX9_offerRanked_19 : decode cX9_offerRanked 19 = .ok (.aload_n 0, 1) := by decide +kernel
theorem dX9_offerRanked_20 : decode cX9_offerRanked 20 = .ok (.getfield 9, 3) := by decide +kernel
theorem dX9_offerRanked_23 : decode cX9_offerRanked 23 = .ok (.iconst 3, 1) := by decide +kernel
theorem dX9_offerRanked_24 : decode cX9_offerRanked 24 = .ok (.iaload, 1) := by decide +kernel
theorem dX9_offerRanked_25 : decode cX9_offerRanked 25 = .ok (.if_icmp .ge 27, 3) := by decide +kernel
theorem dX9_offerRanked_28 : decode cX9_offerRanked 28 = .ok (.iload_n 3, 1) := by decide +kernel
theorem dX9_offerRanked_29 : decode cX9_offerRanked 29 = .ok (.aload_n 0, 1) := by decide +kernel
theorem dX9_offerRanked_30 : decode cX9_offerRanked 30 = .ok (.iload 4, 2) := by decide +kernel
theorem dX9_offerRanked_32 : decode cX9_offerRanked 32 = .ok (.iload_n 2, 1) := by decide +kernel
theorem dX9_offerRanked_33 : decode cX9_offerRanked 33 = .ok (.invokevirtual 92, 3) := by decide +kernel
theorem dX9_offerRanked_36 : decode cX9_offerRanked 36 = .ok (.ifCond .eq 7, 3) := by decide +kernel
theorem dX9_offerRanked_39 : decode cX9_offerRanked 39 = .ok (.iconst 1, 1) := by decide +kernel
theorem dX9_offerRanked_40 : decode cX9_offerRanked 40 = .ok (.goto 4, 3) := by decide +kernel
theorem dX9_offerRanked_43 : decode cX9_offerRanked 43 = .ok (.iconst 0, 1) := by decide +kernel
theorem dX9_offerRanked_44 : decode cX9_offerRanked 44 = .ok (.iadd, 1) := by decide +kernel
theorem dX9_offerRanked_45 : decode cX9_offerRanked 45 = .ok (.istore_n 3, 1) := by decide +kernel
theorem dX9_offerRanked_46 : decode cX9_offerRanked 46 = .ok (.iinc 4 1, 3) := by decide +kernel
theorem dX9_offerRanked_49 : decode cX9_offerRanked 49 = .ok (.goto (-32), 3) := by decide +kernel
theorem dX9_offerRanked_52 : decode cX9_offerRanked 52 = .ok (.iload_n 3, 1) := by decide +kernel
theorem dX9_offerRanked_53 : decode cX9_offerRanked 53 = .ok (.iload_n 1, 1) := by decide +kernel
theorem dX9_offerRanked_54 : decode cX9_offerRanked 54 = .ok (.if_icmp .ne 5, 3) := by decide +kernel
theorem dX9_offerRanked_57 : decode cX9_offerRanked 57 = .ok (.iload_n 2, 1) := by decide +kernel
theorem dX9_offerRanked_58 : decode cX9_offerRanked 58 = .ok (.ireturn, 1) := by decide +kernel
theorem dX9_offerRanked_59 : decode cX9_offerRanked 59 = .ok (.iinc 2 1, 3) := by decide +kernel
theorem dX9_offerRanked_62 : decode cX9_offerRanked 62 = .ok (.goto (-60), 3) := by decide +kernel
theorem dX9_offerRanked_65 : decode cX9_offerRanked 65 = .ok (.iconst (-1), 1) := by decide +kernel
theorem dX9_offerRanked_66 : decode cX9_offerRanked 66 = .ok (.ireturn, 1) := by decide +kernel
theorem dX9_placeOfBid_0 : decode cX9_placeOfBid 0 = .ok (.iconst 0, 1) := by decide +kernel
theorem dX9_placeOfBid_1 : decode cX9_placeOfBid 1 = .ok (.istore_n 2, 1) := by decide +kernel
theorem dX9_placeOfBid_2 : decode cX9_placeOfBid 2 = .ok (.iload_n 2, 1) := by decide +kernel
theorem dX9_placeOfBid_3 : decode cX9_placeOfBid 3 = .ok (.aload_n 0, 1) := by decide +kernel
theorem dX9_placeOfBid_4 : decode cX9_placeOfBid 4 = .ok (.getfield 9, 3) := by decide +kernel
theorem dX9_placeOfBid_7 : decode cX9_placeOfBid 7 = .ok (.iconst 2, 1) := by decide +kernel
theorem dX9_placeOfBid_8 : decode cX9_placeOfBid 8 = .ok (.iaload, 1) := by decide +kernel
theorem dX9_placeOfBid_9 : decode cX9_placeOfBid 9 = .ok (.if_icmp .ge 24, 3) := by decide +kernel
theorem dX9_placeOfBid_12 : decode cX9_placeOfBid 12 = .ok (.aload_n 0, 1) := by decide +kernel
theorem dX9_placeOfBid_13 : decode cX9_placeOfBid 13 = .ok (.getfield 9, 3) := by decide +kernel
theorem dX9_placeOfBid_16 : decode cX9_placeOfBid 16 = .ok (.iload_n 2, 1) := by decide +kernel
theorem dX9_placeOfBid_17 : decode cX9_placeOfBid 17 = .ok (.invokestatic 73, 3) := by decide +kernel
theorem dX9_placeOfBid_20 : decode cX9_placeOfBid 20 = .ok (.iaload, 1) := by decide +kernel
theorem dX9_placeOfBid_21 : decode cX9_placeOfBid 21 = .ok (.iload_n 1, 1) := by decide +kernel
theorem dX9_placeOfBid_22 : decode cX9_placeOfBid 22 = .ok (.if_icmp .ne 5, 3) := by decide +kernel
theorem dX9_placeOfBid_25 : decode cX9_placeOfBid 25 = .ok (.iload_n 2, 1) := by decide +kernel
theorem dX9_placeOfBid_26 : decode cX9_placeOfBid 26 = .ok (.ireturn, 1) := by decide +kernel
theorem dX9_placeOfBid_27 : decode cX9_placeOfBid 27 = .ok (.iinc 2 1, 3) := by decide +kernel
theorem dX9_placeOfBid_30 : decode cX9_placeOfBid 30 = .ok (.goto (-28), 3) := by decide +kernel
theorem dX9_placeOfBid_33 : decode cX9_placeOfBid 33 = .ok (.iconst (-1), 1) := by decide +kernel
theorem dX9_placeOfBid_34 : decode cX9_placeOfBid 34 = .ok (.ireturn, 1) := by decide +kernel
theorem dX9_placeOfOffer_0 : decode cX9_placeOfOffer 0 = .ok (.iconst 0, 1) := by decide +kernel
theorem dX9_placeOfOffer_1 : decode cX9_placeOfOffer 1 = .ok (.istore_n 2, 1) := by decide +kernel
theorem dX9_placeOfOffer_2 : decode cX9_placeOfOffer 2 = .ok (.iload_n 2, 1) := by decide +kernel
theorem dX9_placeOfOffer_3 : decode cX9_placeOfOffer 3 = .ok (.aload_n 0, 1) := by decide +kernel
theorem dX9_placeOfOffer_4 : decode cX9_placeOfOffer 4 = .ok (.getfield 9, 3) := by decide +kernel
theorem dX9_placeOfOffer_7 : decode cX9_placeOfOffer 7 = .ok (.iconst 3, 1) := by decide +kernel
theorem dX9_placeOfOffer_8 : decode cX9_placeOfOffer 8 = .ok (.iaload, 1) := by decide +kernel
theorem dX9_placeOfOffer_9 : decode cX9_placeOfOffer 9 = .ok (.if_icmp .ge 24, 3) := by decide +kernel
theorem dX9_placeOfOffer_12 : decode cX9_placeOfOffer 12 = .ok (.aload_n 0, 1) := by decide +kernel
theorem dX9_placeOfOffer_13 : decode cX9_placeOfOffer 13 = .ok (.getfield 9, 3) := by decide +kernel
theorem dX9_placeOfOffer_16 : decode cX9_placeOfOffer 16 = .ok (.iload_n 2, 1) := by decide +kernel
theorem dX9_placeOfOffer_17 : decode cX9_placeOfOffer 17 = .ok (.invokestatic 82, 3) := by decide +kernel
theorem dX9_placeOfOffer_20 : decode cX9_placeOfOffer 20 = .ok (.iaload, 1) := by decide +kernel
theorem dX9_placeOfOffer_21 : decode cX9_placeOfOffer 21 = .ok (.iload_n 1, 1) := by decide +kernel
theorem dX9_placeOfOffer_22 : decode cX9_placeOfOffer 22 = .ok (.if_icmp .ne 5, 3) := by decide +kernel
theorem dX9_placeOfOffer_25 : decode cX9_placeOfOffer 25 = .ok (.iload_n 2, 1) := by decide +kernel
theorem dX9_placeOfOffer_26 : decode cX9_placeOfOffer 26 = .ok (.ireturn, 1) := by decide +kernel
theorem dX9_placeOfOffer_27 : decode cX9_placeOfOffer 27 = .ok (.iinc 2 1, 3) := by decide +kernel
theorem dX9_placeOfOffer_30 : decode cX9_placeOfOffer 30 = .ok (.goto (-28), 3) := by decide +kernel
theorem dX9_placeOfOffer_33 : decode cX9_placeOfOffer 33 = .ok (.iconst (-1), 1) := by decide +kernel
theorem dX9_placeOfOffer_34 : decode cX9_placeOfOffer 34 = .ok (.ireturn, 1) := by decide +kernel
theorem dX9_fits_0 : decode cX9_fits 0 = .ok (.iload_n 1, 1) := by decide +kernel
theorem dX9_fits_1 : decode cX9_fits 1 = .ok (.invokestatic 82, 3) := by decide +kernel
theorem dX9_fits_4 : decode cX9_fits 4 = .ok (.istore_n 3, 1) := by decide +kernel
theorem dX9_fits_5 : decode cX9_fits 5 = .ok (.iload_n 2, 1) := by decide +kernel
theorem dX9_fits_6 : decode cX9_fits 6 = .ok (.invokestatic 73, 3) := by decide +kernel
theorem dX9_fits_9 : decode cX9_fits 9 = .ok (.istore 4, 2) := by decide +kernel
theorem dX9_fits_11 : decode cX9_fits 11 = .ok (.aload_n 0, 1) := by decide +kernel
theorem dX9_fits_12 : decode cX9_fits 12 = .ok (.getfield 9, 3) := by decide +kernel
theorem dX9_fits_15 : decode cX9_fits 15 = .ok (.aload_n 0, 1) := by decide +kernel
theorem dX9_fits_16 : decode cX9_fits 16 = .ok (.getfield 9, 3) := by decide +kernel
theorem dX9_fits_19 : decode cX9_fits 19 = .ok (.iload_n 3, 1) := by decide +kernel
theorem dX9_fits_20 : decode cX9_fits 20 = .ok (.iconst 1, 1) := by decide +kernel
theorem dX9_fits_21 : decode cX9_fits 21 = .ok (.iadd, 1) := by decide +kernel
theorem dX9_fits_22 : decode cX9_fits 22 = .ok (.iaload, 1) := by decide +kernel
theorem dX9_fits_23 : decode cX9_fits 23 = .ok (.invokestatic 70, 3) := by decide +kernel
theorem dX9_fits_26 : decode cX9_fits 26 = .ok (.iaload, 1) := by decide +kernel
theorem dX9_fits_27 : decode cX9_fits 27 = .ok (.aload_n 0, 1) := by decide +kernel
theorem dX9_fits_28 : decode cX9_fits 28 = .ok (.getfield 9, 3) := by decide +kernel
theorem dX9_fits_31 : decode cX9_fits 31 = .ok (.iload 4, 2) := by decide +kernel
theorem dX9_fits_33 : decode cX9_fits 33 = .ok (.iconst 1, 1) := by decide +kernel
theorem dX9_fits_34 : decode cX9_fits 34 = .ok (.iadd, 1) := by decide +kernel
theorem dX9_fits_35 : decode cX9_fits 35 = .ok (.iaload, 1) := by decide +kernel
theorem dX9_fits_36 : decode cX9_fits 36 = .ok (.if_icmp .eq 51, 3) := by decide +kernel
theorem dX9_fits_39 : decode cX9_fits 39 = .ok (.aload_n 0, 1) := by decide +kernel
theorem dX9_fits_40 : decode cX9_fits 40 = .ok (.aload_n 0, 1) := by decide +kernel
theorem dX9_fits_41 : decode cX9_fits 41 = .ok (.getfield 9, 3) := by decide +kernel
theorem dX9_fits_44 : decode cX9_fits 44 = .ok (.iload_n 3, 1) := by decide +kernel
theorem dX9_fits_45 : decode cX9_fits 45 = .ok (.iconst 1, 1) := by decide +kernel
theorem dX9_fits_46 : decode cX9_fits 46 = .ok (.iadd, 1) := by decide +kernel
theorem dX9_fits_47 : decode cX9_fits 47 = .ok (.iaload, 1) := by decide +kernel
theorem dX9_fits_48 : decode cX9_fits 48 = .ok (.invokevirtual 85, 3) := by decide +kernel
theorem dX9_fits_51 : decode cX9_fits 51 = .ok (.aload_n 0, 1) := by decide +kernel
theorem dX9_fits_52 : decode cX9_fits 52 = .ok (.getfield 9, 3) := by decide +kernel
theorem dX9_fits_55 : decode cX9_fits 55 = .ok (.iload 4, 2) := by decide +kernel
theorem dX9_fits_57 : decode cX9_fits 57 = .ok (.iconst 2, 1) := by decide +kernel
theorem dX9_fits_58 : decode cX9_fits 58 = .ok (.iadd, 1) := by decide +kernel
theorem dX9_fits_59 : decode cX9_fits 59 = .ok (.iaload, 1) := by decide +kernel
theorem dX9_fits_60 : decode cX9_fits 60 = .ok (.if_icmp .lt 27, 3) := by decide +kernel
theorem dX9_fits_63 : decode cX9_fits 63 = .ok (.aload_n 0, 1) := by decide +kernel
theorem dX9_fits_64 : decode cX9_fits 64 = .ok (.getfield 9, 3) := by decide +kernel
theorem dX9_fits_67 : decode cX9_fits 67 = .ok (.iload_n 3, 1) := by decide +kernel
theorem dX9_fits_68 : decode cX9_fits 68 = .ok (.iconst 2, 1) := by decide +kernel
theorem dX9_fits_69 : decode cX9_fits 69 = .ok (.iadd, 1) := by decide +kernel
theorem dX9_fits_70 : decode cX9_fits 70 = .ok (.iaload, 1) := by decide +kernel
theorem dX9_fits_71 : decode cX9_fits 71 = .ok (.aload_n 0, 1) := by decide +kernel
theorem dX9_fits_72 : decode cX9_fits 72 = .ok (.getfield 9, 3) := by decide +kernel
theorem dX9_fits_75 : decode cX9_fits 75 = .ok (.iload 4, 2) := by decide +kernel
theorem dX9_fits_77 : decode cX9_fits 77 = .ok (.iconst 3, 1) := by decide +kernel
theorem dX9_fits_78 : decode cX9_fits 78 = .ok (.iadd, 1) := by decide +kernel
theorem dX9_fits_79 : decode cX9_fits 79 = .ok (.iaload, 1) := by decide +kernel
theorem dX9_fits_80 : decode cX9_fits 80 = .ok (.if_icmp .gt 7, 3) := by decide +kernel
theorem dX9_fits_83 : decode cX9_fits 83 = .ok (.iconst 1, 1) := by decide +kernel
theorem dX9_fits_84 : decode cX9_fits 84 = .ok (.goto 4, 3) := by decide +kernel
theorem dX9_fits_87 : decode cX9_fits 87 = .ok (.iconst 0, 1) := by decide +kernel
theorem dX9_fits_88 : decode cX9_fits 88 = .ok (.ireturn, 1) := by decide +kernel
theorem dX9_match_0 : decode cX9_match 0 = .ok (.iconst (-1), 1) := by decide +kernel
theorem dX9_match_1 : decode cX9_match 1 = .ok (.istore_n 2, 1) := by decide +kernel
theorem dX9_match_2 : decode cX9_match 2 = .ok (.iconst 0, 1) := by decide +kernel
theorem dX9_match_3 : decode cX9_match 3 = .ok (.istore_n 3, 1) := by decide +kernel
theorem dX9_match_4 : decode cX9_match 4 = .ok (.iload_n 3, 1) := by decide +kernel
theorem dX9_match_5 : decode cX9_match 5 = .ok (.aload_n 0, 1) := by decide +kernel
theorem dX9_match_6 : decode cX9_match 6 = .ok (.getfield 9, 3) := by decide +kernel
theorem dX9_match_9 : decode cX9_match 9 = .ok (.iconst 3, 1) := by decide +kernel
theorem dX9_match_10 : decode cX9_match 10 = .ok (.iaload, 1) := by decide +kernel
theorem dX9_match_11 : decode cX9_match 11 = .ok (.if_icmp .ge 38, 3) := by decide +kernel
theorem dX9_match_14 : decode cX9_match 14 = .ok (.aload_n 0, 1) := by decide +kernel
theorem dX9_match_15 : decode cX9_match 15 = .ok (.iload_n 3, 1) := by decide +kernel
theorem dX9_match_16 : decode cX9_match 16 = .ok (.iload_n 1, 1) := by decide +kernel
theorem dX9_match_17 : decode cX9_match 17 = .ok (.invokevirtual 95, 3) := by decide +kernel
theorem dX9_match_20 : decode cX9_match 20 = .ok (.ifCond .eq 21, 3) := by decide +kernel
theorem dX9_match_23 : decode cX9_match 23 = .ok (.iload_n 2, 1) := by decide +kernel
theorem dX9_match_24 : decode cX9_match 24 = .ok (.iconst (-1), 1) := by decide +kernel
theorem dX9_match_25 : decode cX9_match 25 = .ok (.if_icmp .eq 12, 3) := by decide +kernel
theorem dX9_match_28 : decode cX9_match 28 = .ok (.aload_n 0, 1) := by decide +kernel
theorem dX9_match_29 : decode cX9_match 29 = .ok (.iload_n 3, 1) := by decide +kernel
theorem dX9_match_30 : decode cX9_match 30 = .ok (.iload_n 2, 1) := by decide +kernel
theorem dX9_match_31 : decode cX9_match 31 = .ok (.invokevirtual 92, 3) := by decide +kernel
theorem dX9_match_34 : decode cX9_match 34 = .ok (.ifCond .eq 7, 3) := by decide +kernel
theorem dX9_match_37 : decode cX9_match 37 = .ok (.iload_n 3, 1) := by decide +kernel
theorem dX9_match_38 : decode cX9_match 38 = .ok (.goto 4, 3) := by decide +kernel
theorem dX9_match_41 : decode cX9_match 41 = .ok (.iload_n 2, 1) := by decide +kernel
theorem dX9_match_42 : decode cX9_match 42 = .ok (.istore_n 2, 1) := by decide +kernel
theorem dX9_match_43 : decode cX9_match 43 = .ok (.iinc 3 1, 3) := by decide +kernel
theorem dX9_match_46 : decode cX9_match 46 = .ok (.goto (-42), 3) := by decide +kernel
theorem dX9_match_49 : decode cX9_match 49 = .ok (.iload_n 2, 1) := by decide +kernel
theorem dX9_match_50 : decode cX9_match 50 = .ok (.ireturn, 1) := by decide +kernel
theorem dX9_closes_0 : decode cX9_closes 0 = .ok (.iload_n 2, 1) := by decide +kernel
theorem dX9_closes_1 : decode cX9_closes 1 = .ok (.istore 5, 2) := by decide +kernel
theorem dX9_closes_3 : decode cX9_closes 3 = .ok (.iload 5, 2) := by decide +kernel
theorem dX9_closes_5 : decode cX9_closes 5 = .ok (.iload 4, 2) := by decide +kernel
theorem dX9_closes_7 : decode cX9_closes 7 = .ok (.iload_n 3, 1) := by decide +kernel
theorem dX9_closes_8 : decode cX9_closes 8 = .ok (.isub, 1) := by decide +kernel
theorem dX9_closes_9 : decode cX9_closes 9 = .ok (.if_icmp .ge 25, 3) := by decide +kernel
theorem dX9_closes_12 : decode cX9_closes 12 = .ok (.aload_n 0, 1) := by decide +kernel
theorem dX9_closes_13 : decode cX9_closes 13 = .ok (.getfield 9, 3) := by decide +kernel
theorem dX9_closes_16 : decode cX9_closes 16 = .ok (.iload 5, 2) := by decide +kernel
theorem dX9_closes_18 : decode cX9_closes 18 = .ok (.aload_n 0, 1) := by decide +kernel
theorem dX9_closes_19 : decode cX9_closes 19 = .ok (.getfield 9, 3) := by decide +kernel
theorem dX9_closes_22 : decode cX9_closes 22 = .ok (.iload 5, 2) := by decide +kernel
theorem dX9_closes_24 : decode cX9_closes 24 = .ok (.iload_n 3, 1) := by decide +kernel
theorem dX9_closes_25 : decode cX9_closes 25 = .ok (.iadd, 1) := by decide +kernel
theorem dX9_closes_26 : decode cX9_closes 26 = .ok (.iaload, 1) := by decide +kernel
theorem dX9_closes_27 : decode cX9_closes 27 = .ok (.iastore, 1) := by decide +kernel
theorem dX9_closes_28 : decode cX9_closes 28 = .ok (.iinc 5 1, 3) := by decide +kernel
theorem dX9_closes_31 : decode cX9_closes 31 = .ok (.goto (-28), 3) := by decide +kernel
theorem dX9_closes_34 : decode cX9_closes 34 = .ok (.iload 4, 2) := by decide +kernel
theorem dX9_closes_36 : decode cX9_closes 36 = .ok (.iload_n 3, 1) := by decide +kernel
theorem dX9_closes_37 : decode cX9_closes 37 = .ok (.isub, 1) := by decide +kernel
theorem dX9_closes_38 : decode cX9_closes 38 = .ok (.istore 5, 2) := by decide +kernel
theorem dX9_closes_40 : decode cX9_closes 40 = .ok (.iload 5, 2) := by decide +kernel
theorem dX9_closes_42 : decode cX9_closes 42 = .ok (.iload 4, 2) := by decide +kernel
theorem dX9_closes_44 : decode cX9_closes 44 = .ok (.if_icmp .ge 17, 3) := by decide +kernel
theorem dX9_closes_47 : decode cX9_closes 47 = .ok (.aload_n 0, 1) := by decide +kernel
theorem dX9_closes_48 : decode cX9_closes 48 = .ok (.getfield 9, 3) := by decide +kernel
theorem dX9_closes_51 : decode cX9_closes 51 = .ok (.iload 5, 2) := by decide +kernel
theorem dX9_closes_53 : decode cX9_closes 53 = .ok (.iconst 0, 1) := by decide +kernel
theorem dX9_closes_54 : decode cX9_closes 54 = .ok (.iastore, 1) := by decide +kernel
theorem dX9_closes_55 : decode cX9_closes 55 = .ok (.iinc 5 1, 3) := by decide +kernel
theorem dX9_closes_58 : decode cX9_closes 58 = .ok (.goto (-18), 3) := by decide +kernel
theorem dX9_closes_61 : decode cX9_closes 61 = .ok (.aload_n 0, 1) := by decide +kernel
theorem dX9_closes_62 : decode cX9_closes 62 = .ok (.getfield 9, 3) := by decide +kernel
theorem dX9_closes_65 : decode cX9_closes 65 = .ok (.iload_n 1, 1) := by decide +kernel
theorem dX9_closes_66 : decode cX9_closes 66 = .ok (.dup2, 1) := by decide +kernel
theorem dX9_closes_67 : decode cX9_closes 67 = .ok (.iaload, 1) := by decide +kernel
theorem dX9_closes_68 : decode cX9_closes 68 = .ok (.iconst 1, 1) := by decide +kernel
theorem dX9_closes_69 : decode cX9_closes 69 = .ok (.isub, 1) := by decide +kernel
theorem dX9_closes_70 : decode cX9_closes 70 = .ok (.iastore, 1) := by decide +kernel
theorem dX9_closes_71 : decode cX9_closes 71 = .ok (.return_, 1) := by decide +kernel
theorem dX9_closesBid_0 : decode cX9_closesBid 0 = .ok (.aload_n 0, 1) := by decide +kernel
theorem dX9_closesBid_1 : decode cX9_closesBid 1 = .ok (.iconst 2, 1) := by decide +kernel
theorem dX9_closesBid_2 : decode cX9_closesBid 2 = .ok (.iload_n 1, 1) := by decide +kernel
theorem dX9_closesBid_3 : decode cX9_closesBid 3 = .ok (.invokestatic 73, 3) := by decide +kernel
theorem dX9_closesBid_6 : decode cX9_closesBid 6 = .ok (.iconst 5, 1) := by decide +kernel
theorem dX9_closesBid_7 : decode cX9_closesBid 7 = .ok (.bipush 108, 2) := by decide +kernel
theorem dX9_closesBid_9 : decode cX9_closesBid 9 = .ok (.invokevirtual 98, 3) := by decide +kernel
theorem dX9_closesBid_12 : decode cX9_closesBid 12 = .ok (.return_, 1) := by decide +kernel
theorem dX9_closesOffer_0 : decode cX9_closesOffer 0 = .ok (.aload_n 0, 1) := by decide +kernel
theorem dX9_closesOffer_1 : decode cX9_closesOffer 1 = .ok (.iconst 3, 1) := by decide +kernel
theorem dX9_closesOffer_2 : decode cX9_closesOffer 2 = .ok (.iload_n 1, 1) := by decide +kernel
theorem dX9_closesOffer_3 : decode cX9_closesOffer 3 = .ok (.invokestatic 82, 3) := by decide +kernel
theorem dX9_closesOffer_6 : decode cX9_closesOffer 6 = .ok (.iconst 4, 1) := by decide +kernel
theorem dX9_closesOffer_7 : decode cX9_closesOffer 7 = .ok (.sipush 172, 3) := by decide +kernel
theorem dX9_closesOffer_10 : decode cX9_closesOffer 10 = .ok (.invokevirtual 98, 3) := by decide +kernel
theorem dX9_closesOffer_13 : decode cX9_closesOffer 13 = .ok (.return_, 1) := by decide +kernel
theorem dX9_shipIt_0 : decode cX9_shipIt 0 = .ok (.iload_n 1, 1) := by decide +kernel
theorem dX9_shipIt_1 : decode cX9_shipIt 1 = .ok (.i2l, 1) := by decide +kernel
theorem dX9_shipIt_2 : decode cX9_shipIt 2 = .ok (.lconst 0, 1) := by decide +kernel
theorem dX9_shipIt_3 : decode cX9_shipIt 3 = .ok (.ldc2_w 102, 3) := by decide +kernel
theorem dX9_shipIt_6 : decode cX9_shipIt 6 = .ok (.invokestatic 63, 3) := by decide +kernel
theorem dX9_shipIt_9 : decode cX9_shipIt 9 = .ok (.ifCond .eq 15, 3) := by decide +kernel
theorem dX9_shipIt_12 : decode cX9_shipIt 12 = .ok (.iload_n 2, 1) := by decide +kernel
theorem dX9_shipIt_13 : decode cX9_shipIt 13 = .ok (.i2l, 1) := by decide +kernel
theorem dX9_shipIt_14 : decode cX9_shipIt 14 = .ok (.lconst 1, 1) := by decide +kernel
theorem dX9_shipIt_15 : decode cX9_shipIt 15 = .ok (.ldc2_w 104, 3) := by decide +kernel
theorem dX9_shipIt_18 : decode cX9_shipIt 18 = .ok (.invokestatic 63, 3) := by decide +kernel
theorem dX9_shipIt_21 : decode cX9_shipIt 21 = .ok (.ifCond .ne 9, 3) := by decide +kernel
theorem dX9_shipIt_24 : decode cX9_shipIt 24 = .ok (.aload_n 0, 1) := by decide +kernel
theorem dX9_shipIt_25 : decode cX9_shipIt 25 = .ok (.iconst 1, 1) := by decide +kernel
theorem dX9_shipIt_26 : decode cX9_shipIt 26 = .ok (.invokevirtual 47, 3) := by decide +kernel
theorem dX9_shipIt_29 : decode cX9_shipIt 29 = .ok (.ireturn, 1) := by decide +kernel
theorem dX9_shipIt_30 : decode cX9_shipIt 30 = .ok (.aload_n 0, 1) := by decide +kernel
theorem dX9_shipIt_31 : decode cX9_shipIt 31 = .ok (.getfield 9, 3) := by decide +kernel
theorem dX9_shipIt_34 : decode cX9_shipIt 34 = .ok (.iconst 0, 1) := by decide +kernel
theorem dX9_shipIt_35 : decode cX9_shipIt 35 = .ok (.iaload, 1) := by decide +kernel
theorem dX9_shipIt_36 : decode cX9_shipIt 36 = .ok (.bipush 6, 2) := by decide +kernel
theorem dX9_shipIt_38 : decode cX9_shipIt 38 = .ok (.if_icmp .ne 12, 3) := by decide +kernel
theorem dX9_shipIt_41 : decode cX9_shipIt 41 = .ok (.aload_n 0, 1) := by decide +kernel
theorem dX9_shipIt_42 : decode cX9_shipIt 42 = .ok (.iconst 2, 1) := by decide +kernel
theorem dX9_shipIt_43 : decode cX9_shipIt 43 = .ok (.iconst 1, 1) := by decide +kernel
theorem dX9_shipIt_44 : decode cX9_shipIt 44 = .ok (.bipush 6, 2) := by decide +kernel
theorem dX9_shipIt_46 : decode cX9_shipIt 46 = .ok (.invokevirtual 106, 3) := by decide +kernel
theorem dX9_shipIt_49 : decode cX9_shipIt 49 = .ok (.ireturn, 1) := by decide +kernel
theorem dX9_shipIt_50 : decode cX9_shipIt 50 = .ok (.aload_n 0, 1) := by decide +kernel
theorem dX9_shipIt_51 : decode cX9_shipIt 51 = .ok (.getfield 9, 3) := by decide +kernel
theorem dX9_shipIt_54 : decode cX9_shipIt 54 = .ok (.aload_n 0, 1) := by decide +kernel
theorem dX9_shipIt_55 : decode cX9_shipIt 55 = .ok (.getfield 9, 3) := by decide +kernel
theorem dX9_shipIt_58 : decode cX9_shipIt 58 = .ok (.iconst 0, 1) := by decide +kernel
theorem dX9_shipIt_59 : decode cX9_shipIt 59 = .ok (.iaload, 1) := by decide +kernel
theorem dX9_shipIt_60 : decode cX9_shipIt 60 = .ok (.invokestatic 67, 3) := by decide +kernel
theorem dX9_shipIt_63 : decode cX9_shipIt 63 = .ok (.iload_n 1, 1) := by decide +kernel
theorem dX9_shipIt_64 : decode cX9_shipIt 64 = .ok (.iastore, 1) := by decide +kernel
theorem dX9_shipIt_65 : decode cX9_shipIt 65 = .ok (.aload_n 0, 1) := by decide +kernel
theorem dX9_shipIt_66 : decode cX9_shipIt 66 = .ok (.getfield 9, 3) := by decide +kernel
theorem dX9_shipIt_69 : decode cX9_shipIt 69 = .ok (.aload_n 0, 1) := by decide +kernel
theorem dX9_shipIt_70 : decode cX9_shipIt 70 = .ok (.getfield 9, 3) := by decide +kernel
theorem dX9_shipIt_73 : decode cX9_shipIt 73 = .ok (.iconst 0, 1) := by decide +kernel
theorem dX9_shipIt_74 : decode cX9_shipIt 74 = .ok (.iaload, 1) := by decide +kernel
theorem dX9_shipIt_75 : decode cX9_shipIt 75 = .ok (.invokestatic 67, 3) := by decide +kernel
theorem dX9_shipIt_78 : decode cX9_shipIt 78 = .ok (.iconst 1, 1) := by decide +kernel
theorem dX9_shipIt_79 : decode cX9_shipIt 79 = .ok (.iadd, 1) := by decide +kernel
theorem dX9_shipIt_80 : decode cX9_shipIt 80 = .ok (.iload_n 2, 1) := by decide +kernel
theorem dX9_shipIt_81 : decode cX9_shipIt 81 = .ok (.iastore, 1) := by decide +kernel
theorem dX9_shipIt_82 : decode cX9_shipIt 82 = .ok (.aload_n 0, 1) := by decide +kernel
theorem dX9_shipIt_83 : decode cX9_shipIt 83 = .ok (.getfield 9, 3) := by decide +kernel
theorem dX9_shipIt_86 : decode cX9_shipIt 86 = .ok (.bipush 12, 2) := by decide +kernel
theorem dX9_shipIt_88 : decode cX9_shipIt 88 = .ok (.dup2, 1) := by decide +kernel
theorem dX9_shipIt_89 : decode cX9_shipIt 89 = .ok (.iaload, 1) := by decide +kernel
theorem dX9_shipIt_90 : decode cX9_shipIt 90 = .ok (.iload_n 1, 1) := by decide +kernel
theorem dX9_shipIt_91 : decode cX9_shipIt 91 = .ok (.iadd, 1) := by decide +kernel
theorem dX9_shipIt_92 : decode cX9_shipIt 92 = .ok (.iastore, 1) := by decide +kernel
theorem dX9_shipIt_93 : decode cX9_shipIt 93 = .ok (.aload_n 0, 1) := by decide +kernel
theorem dX9_shipIt_94 : decode cX9_shipIt 94 = .ok (.getfield 9, 3) := by decide +kernel
theorem dX9_shipIt_97 : decode cX9_shipIt 97 = .ok (.iconst 0, 1) := by decide +kernel
theorem dX9_shipIt_98 : decode cX9_shipIt 98 = .ok (.dup2, 1) := by decide +kernel
theorem dX9_shipIt_99 : decode cX9_shipIt 99 = .ok (.iaload, 1) := by decide +kernel
theorem dX9_shipIt_100 : decode cX9_shipIt 100 = .ok (.iconst 1, 1) := by decide +kernel
theorem dX9_shipIt_101 : decode cX9_shipIt 101 = .ok (.iadd, 1) := by decide +kernel
theorem dX9_shipIt_102 : decode cX9_shipIt 102 = .ok (.iastore, 1) := by decide +kernel
theorem dX9_shipIt_103 : decode cX9_shipIt 103 = .ok (.aload_n 0, 1) := by decide +kernel
theorem dX9_shipIt_104 : decode cX9_shipIt 104 = .ok (.getfield 9, 3) := by decide +kernel
theorem dX9_shipIt_107 : decode cX9_shipIt 107 = .ok (.iconst 0, 1) := by decide +kernel
theorem dX9_shipIt_108 : decode cX9_shipIt 108 = .ok (.iaload, 1) := by decide +kernel
theorem dX9_shipIt_109 : decode cX9_shipIt 109 = .ok (.iconst 1, 1) := by decide +kernel
theorem dX9_shipIt_110 : decode cX9_shipIt 110 = .ok (.isub, 1) := by decide +kernel
theorem dX9_shipIt_111 : decode cX9_shipIt 111 = .ok (.ireturn, 1) := by decide +kernel
theorem dX9_addShip_0 : decode cX9_addShip 0 = .ok (.aload_n 0, 1) := by decide +kernel
theorem dX9_addShip_1 : decode cX9_addShip 1 = .ok (.invokevirtual 110, 3) := by decide +kernel
theorem dX9_addShip_4 : decode cX9_addShip 4 = .ok (.aload_n 0, 1) := by decide +kernel
theorem dX9_addShip_5 : decode cX9_addShip 5 = .ok (.aload_n 0, 1) := by decide +kernel
theorem dX9_addShip_6 : decode cX9_addShip 6 = .ok (.iload_n 1, 1) := by decide +kernel
theorem dX9_addShip_7 : decode cX9_addShip 7 = .ok (.iload_n 2, 1) := by decide +kernel
theorem dX9_addShip_8 : decode cX9_addShip 8 = .ok (.invokevirtual 113, 3) := by decide +kernel
theorem dX9_addShip_11 : decode cX9_addShip 11 = .ok (.invokevirtual 117, 3) := by decide +kernel
theorem dX9_addShip_14 : decode cX9_addShip 14 = .ok (.ireturn, 1) := by decide +kernel
theorem dX9_barnacleIt_0 : decode cX9_barnacleIt 0 = .ok (.aload_n 0, 1) := by decide +kernel
theorem dX9_barnacleIt_1 : decode cX9_barnacleIt 1 = .ok (.iload_n 1, 1) := by decide +kernel
theorem dX9_barnacleIt_2 : decode cX9_barnacleIt 2 = .ok (.invokevirtual 120, 3) := by decide +kernel
theorem dX9_barnacleIt_5 : decode cX9_barnacleIt 5 = .ok (.ifCond .ne 9, 3) := by decide +kernel
theorem dX9_barnacleIt_8 : decode cX9_barnacleIt 8 = .ok (.aload_n 0, 1) := by decide +kernel
theorem dX9_barnacleIt_9 : decode cX9_barnacleIt 9 = .ok (.iconst 1, 1) := by decide +kernel
theorem dX9_barnacleIt_10 : decode cX9_barnacleIt 10 = .ok (.invokevirtual 47, 3) := by decide +kernel
theorem dX9_barnacleIt_13 : decode cX9_barnacleIt 13 = .ok (.ireturn, 1) := by decide +kernel
theorem dX9_barnacleIt_14 : decode cX9_barnacleIt 14 = .ok (.iload_n 2, 1) := by decide +kernel
theorem dX9_barnacleIt_15 : decode cX9_barnacleIt 15 = .ok (.i2l, 1) := by decide +kernel
theorem dX9_barnacleIt_16 : decode cX9_barnacleIt 16 = .ok (.lconst 1, 1) := by decide +kernel
theorem dX9_barnacleIt_17 : decode cX9_barnacleIt 17 = .ok (.ldc2_w 124, 3) := by decide +kernel
theorem dX9_barnacleIt_20 : decode cX9_barnacleIt 20 = .ok (.invokestatic 63, 3) := by decide +kernel
theorem dX9_barnacleIt_23 : decode cX9_barnacleIt 23 = .ok (.ifCond .ne 9, 3) := by decide +kernel
theorem dX9_barnacleIt_26 : decode cX9_barnacleIt 26 = .ok (.aload_n 0, 1) := by decide +kernel
theorem dX9_barnacleIt_27 : decode cX9_barnacleIt 27 = .ok (.iconst 2, 1) := by decide +kernel
theorem dX9_barnacleIt_28 : decode cX9_barnacleIt 28 = .ok (.invokevirtual 47, 3) := by decide +kernel
theorem dX9_barnacleIt_31 : decode cX9_barnacleIt 31 = .ok (.ireturn, 1) := by decide +kernel
theorem dX9_barnacleIt_32 : decode cX9_barnacleIt 32 = .ok (.aload_n 0, 1) := by decide +kernel
theorem dX9_barnacleIt_33 : decode cX9_barnacleIt 33 = .ok (.getfield 9, 3) := by decide +kernel
theorem dX9_barnacleIt_36 : decode cX9_barnacleIt 36 = .ok (.iconst 1, 1) := by decide +kernel
theorem dX9_barnacleIt_37 : decode cX9_barnacleIt 37 = .ok (.iaload, 1) := by decide +kernel
theorem dX9_barnacleIt_38 : decode cX9_barnacleIt 38 = .ok (.bipush 16, 2) := by decide +kernel
theorem dX9_barnacleIt_40 : decode cX9_barnacleIt 40 = .ok (.if_icmp .ne 12, 3) := by decide +kernel
theorem dX9_barnacleIt_43 : decode cX9_barnacleIt 43 = .ok (.aload_n 0, 1) := by decide +kernel
theorem dX9_barnacleIt_44 : decode cX9_barnacleIt 44 = .ok (.iconst 3, 1) := by decide +kernel
theorem dX9_barnacleIt_45 : decode cX9_barnacleIt 45 = .ok (.iconst 2, 1) := by decide +kernel
theorem dX9_barnacleIt_46 : decode cX9_barnacleIt 46 = .ok (.bipush 16, 2) := by decide +kernel
theorem dX9_barnacleIt_48 : decode cX9_barnacleIt 48 = .ok (.invokevirtual 106, 3) := by decide +kernel
theorem dX9_barnacleIt_51 : decode cX9_barnacleIt 51 = .ok (.ireturn, 1) := by decide +kernel
theorem dX9_barnacleIt_52 : decode cX9_barnacleIt 52 = .ok (.aload_n 0, 1) := by decide +kernel
theorem dX9_barnacleIt_53 : decode cX9_barnacleIt 53 = .ok (.iload_n 1, 1) := by decide +kernel
theorem dX9_barnacleIt_54 : decode cX9_barnacleIt 54 = .ok (.invokevirtual 126, 3) := by decide +kernel
theorem dX9_barnacleIt_57 : decode cX9_barnacleIt 57 = .ok (.ifCond .gt 15, 3) := by decide +kernel
theorem dX9_barnacleIt_60 : decode cX9_barnacleIt 60 = .ok (.aload_n 0, 1) := by decide +kernel
theorem dX9_barnacleIt_61 : decode cX9_barnacleIt 61 = .ok (.iconst 3, 1) := by decide +kernel
theorem dX9_barnacleIt_62 : decode cX9_barnacleIt 62 = .ok (.iconst 3, 1) := by decide +kernel
theorem dX9_barnacleIt_63 : decode cX9_barnacleIt 63 = .ok (.aload_n 0, 1) := by decide +kernel
theorem dX9_barnacleIt_64 : decode cX9_barnacleIt 64 = .ok (.iload_n 1, 1) := by decide +kernel
theorem dX9_barnacleIt_65 : decode cX9_barnacleIt 65 = .ok (.invokevirtual 76, 3) := by decide +kernel
theorem dX9_barnacleIt_68 : decode cX9_barnacleIt 68 = .ok (.invokevirtual 106, 3) := by decide +kernel
theorem dX9_barnacleIt_71 : decode cX9_barnacleIt 71 = .ok (.ireturn, 1) := by decide +kernel
theorem dX9_barnacleIt_72 : decode cX9_barnacleIt 72 = .ok (.aload_n 0, 1) := by decide +kernel
theorem dX9_barnacleIt_73 : decode cX9_barnacleIt 73 = .ok (.getfield 9, 3) := by decide +kernel
theorem dX9_barnacleIt_76 : decode cX9_barnacleIt 76 = .ok (.aload_n 0, 1) := by decide +kernel
theorem dX9_barnacleIt_77 : decode cX9_barnacleIt 77 = .ok (.getfield 9, 3) := by decide +kernel
theorem dX9_barnacleIt_80 : decode cX9_barnacleIt 80 = .ok (.iconst 1, 1) := by decide +kernel
theorem dX9_barnacleIt_81 : decode cX9_barnacleIt 81 = .ok (.iaload, 1) := by decide +kernel
theorem dX9_barnacleIt_82 : decode cX9_barnacleIt 82 = .ok (.invokestatic 70, 3) := by decide +kernel
theorem dX9_barnacleIt_85 : decode cX9_barnacleIt 85 = .ok (.iload_n 1, 1) := by decide +kernel
theorem dX9_barnacleIt_86 : decode cX9_barnacleIt 86 = .ok (.iastore, 1) := by decide +kernel
theorem dX9_barnacleIt_87 : decode cX9_barnacleIt 87 = .ok (.aload_n 0, 1) := by decide +kernel
theorem dX9_barnacleIt_88 : decode cX9_barnacleIt 88 = .ok (.getfield 9, 3) := by decide +kernel
theorem dX9_barnacleIt_91 : decode cX9_barnacleIt 91 = .ok (.aload_n 0, 1) := by decide +kernel
theorem dX9_barnacleIt_92 : decode cX9_barnacleIt 92 = .ok (.getfield 9, 3) := by decide +kernel
theorem dX9_barnacleIt_95 : decode cX9_barnacleIt 95 = .ok (.iconst 1, 1) := by decide +kernel
theorem dX9_barnacleIt_96 : decode cX9_barnacleIt 96 = .ok (.iaload, 1) := by decide +kernel
theorem dX9_barnacleIt_97 : decode cX9_barnacleIt 97 = .ok (.invokestatic 70, 3) := by decide +kernel
theorem dX9_barnacleIt_100 : decode cX9_barnacleIt 100 = .ok (.iconst 1, 1) := by decide +kernel
theorem dX9_barnacleIt_101 : decode cX9_barnacleIt 101 = .ok (.iadd, 1) := by decide +kernel
theorem dX9_barnacleIt_102 : decode cX9_barnacleIt 102 = .ok (.iload_n 2, 1) := by decide +kernel
theorem dX9_barnacleIt_103 : decode cX9_barnacleIt 103 = .ok (.iastore, 1) := by decide +kernel
theorem dX9_barnacleIt_104 : decode cX9_barnacleIt 104 = .ok (.aload_n 0, 1) := by decide +kernel
theorem dX9_barnacleIt_105 : decode cX9_barnacleIt 105 = .ok (.getfield 9, 3) := by decide +kernel
theorem dX9_barnacleIt_108 : decode cX9_barnacleIt 108 = .ok (.iconst 1, 1) := by decide +kernel
theorem dX9_barnacleIt_109 : decode cX9_barnacleIt 109 = .ok (.dup2, 1) := by decide +kernel
theorem dX9_barnacleIt_110 : decode cX9_barnacleIt 110 = .ok (.iaload, 1) := by decide +kernel
theorem dX9_barnacleIt_111 : decode cX9_barnacleIt 111 = .ok (.iconst 1, 1) := by decide +kernel
theorem dX9_barnacleIt_112 : decode cX9_barnacleIt 112 = .ok (.iadd, 1) := by decide +kernel
theorem dX9_barnacleIt_113 : decode cX9_barnacleIt 113 = .ok (.iastore, 1) := by decide +kernel
theorem dX9_barnacleIt_114 : decode cX9_barnacleIt 114 = .ok (.aload_n 0, 1) := by decide +kernel
theorem dX9_barnacleIt_115 : decode cX9_barnacleIt 115 = .ok (.getfield 9, 3) := by decide +kernel
theorem dX9_barnacleIt_118 : decode cX9_barnacleIt 118 = .ok (.iconst 1, 1) := by decide +kernel
theorem dX9_barnacleIt_119 : decode cX9_barnacleIt 119 = .ok (.iaload, 1) := by decide +kernel
theorem dX9_barnacleIt_120 : decode cX9_barnacleIt 120 = .ok (.iconst 1, 1) := by decide +kernel
theorem dX9_barnacleIt_121 : decode cX9_barnacleIt 121 = .ok (.isub, 1) := by decide +kernel
theorem dX9_barnacleIt_122 : decode cX9_barnacleIt 122 = .ok (.ireturn, 1) := by decide +kernel
theorem dX9_addBarnacle_0 : decode cX9_addBarnacle 0 = .ok (.aload_n 0, 1) := by decide +kernel
theorem dX9_addBarnacle_1 : decode cX9_addBarnacle 1 = .ok (.invokevirtual 110, 3) := by decide +kernel
theorem dX9_addBarnacle_4 : decode cX9_addBarnacle 4 = .ok (.aload_n 0, 1) := by decide +kernel
theorem dX9_addBarnacle_5 : decode cX9_addBarnacle 5 = .ok (.aload_n 0, 1) := by decide +kernel
theorem dX9_addBarnacle_6 : decode cX9_addBarnacle 6 = .ok (.iload_n 1, 1) := by decide +kernel
theorem dX9_addBarnacle_7 : decode cX9_addBarnacle 7 = .ok (.iload_n 2, 1) := by decide +kernel
theorem dX9_addBarnacle_8 : decode cX9_addBarnacle 8 = .ok (.invokevirtual 129, 3) := by decide +kernel
theorem dX9_addBarnacle_11 : decode cX9_addBarnacle 11 = .ok (.invokevirtual 117, 3) := by decide +kernel
theorem dX9_addBarnacle_14 : decode cX9_addBarnacle 14 = .ok (.ireturn, 1) := by decide +kernel
theorem dX9_giveIt_0 : decode cX9_giveIt 0 = .ok (.aload_n 0, 1) := by decide +kernel
theorem dX9_giveIt_1 : decode cX9_giveIt 1 = .ok (.iload_n 1, 1) := by decide +kernel
theorem dX9_giveIt_2 : decode cX9_giveIt 2 = .ok (.invokevirtual 120, 3) := by decide +kernel
theorem dX9_giveIt_5 : decode cX9_giveIt 5 = .ok (.ifCond .ne 9, 3) := by decide +kernel
theorem dX9_giveIt_8 : decode cX9_giveIt 8 = .ok (.aload_n 0, 1) := by decide +kernel
theorem dX9_giveIt_9 : decode cX9_giveIt 9 = .ok (.iconst 1, 1) := by decide +kernel
theorem dX9_giveIt_10 : decode cX9_giveIt 10 = .ok (.invokevirtual 47, 3) := by decide +kernel
theorem dX9_giveIt_13 : decode cX9_giveIt 13 = .ok (.ireturn, 1) := by decide +kernel
theorem dX9_giveIt_14 : decode cX9_giveIt 14 = .ok (.iload_n 2, 1) := by decide +kernel
theorem dX9_giveIt_15 : decode cX9_giveIt 15 = .ok (.i2l, 1) := by decide +kernel
theorem dX9_giveIt_16 : decode cX9_giveIt 16 = .ok (.lconst 1, 1) := by decide +kernel
theorem dX9_giveIt_17 : decode cX9_giveIt 17 = .ok (.ldc2_w 102, 3) := by decide +kernel
theorem dX9_giveIt_20 : decode cX9_giveIt 20 = .ok (.invokestatic 63, 3) := by decide +kernel
theorem dX9_giveIt_23 : decode cX9_giveIt 23 = .ok (.ifCond .ne 9, 3) := by decide +kernel
theorem dX9_giveIt_26 : decode cX9_giveIt 26 = .ok (.aload_n 0, 1) := by decide +kernel
theorem dX9_giveIt_27 : decode cX9_giveIt 27 = .ok (.iconst 2, 1) := by decide +kernel
theorem dX9_giveIt_28 : decode cX9_giveIt 28 = .ok (.invokevirtual 47, 3) := by decide +kernel
theorem dX9_giveIt_31 : decode cX9_giveIt 31 = .ok (.ireturn, 1) := by decide +kernel
theorem dX9_giveIt_32 : decode cX9_giveIt 32 = .ok (.aload_n 0, 1) := by decide +kernel
theorem dX9_giveIt_33 : decode cX9_giveIt 33 = .ok (.getfield 9, 3) := by decide +kernel
theorem dX9_giveIt_36 : decode cX9_giveIt 36 = .ok (.iload_n 1, 1) := by decide +kernel
theorem dX9_giveIt_37 : decode cX9_giveIt 37 = .ok (.invokestatic 67, 3) := by decide +kernel
theorem dX9_giveIt_40 : decode cX9_giveIt 40 = .ok (.dup2, 1) := by decide +kernel
theorem dX9_giveIt_41 : decode cX9_giveIt 41 = .ok (.iaload, 1) := by decide +kernel
theorem dX9_giveIt_42 : decode cX9_giveIt 42 = .ok (.iload_n 2, 1) := by decide +kernel
theorem dX9_giveIt_43 : decode cX9_giveIt 43 = .ok (.iadd, 1) := by decide +kernel
theorem dX9_giveIt_44 : decode cX9_giveIt 44 = .ok (.iastore, 1) := by decide +kernel
theorem dX9_giveIt_45 : decode cX9_giveIt 45 = .ok (.aload_n 0, 1) := by decide +kernel
theorem dX9_giveIt_46 : decode cX9_giveIt 46 = .ok (.getfield 9, 3) := by decide +kernel
theorem dX9_giveIt_49 : decode cX9_giveIt 49 = .ok (.bipush 12, 2) := by decide +kernel
theorem dX9_giveIt_51 : decode cX9_giveIt 51 = .ok (.dup2, 1) := by decide +kernel
theorem dX9_giveIt_52 : decode cX9_giveIt 52 = .ok (.iaload, 1) := by decide +kernel
theorem dX9_giveIt_53 : decode cX9_giveIt 53 = .ok (.iload_n 2, 1) := by decide +kernel
theorem dX9_giveIt_54 : decode cX9_giveIt 54 = .ok (.iadd, 1) := by decide +kernel
theorem dX9_giveIt_55 : decode cX9_giveIt 55 = .ok (.iastore, 1) := by decide +kernel
theorem dX9_giveIt_56 : decode cX9_giveIt 56 = .ok (.aload_n 0, 1) := by decide +kernel
theorem dX9_giveIt_57 : decode cX9_giveIt 57 = .ok (.getfield 9, 3) := by decide +kernel
theorem dX9_giveIt_60 : decode cX9_giveIt 60 = .ok (.iload_n 1, 1) := by decide +kernel
theorem dX9_giveIt_61 : decode cX9_giveIt 61 = .ok (.invokestatic 67, 3) := by decide +kernel
theorem dX9_giveIt_64 : decode cX9_giveIt 64 = .ok (.iaload, 1) := by decide +kernel
theorem dX9_giveIt_65 : decode cX9_giveIt 65 = .ok (.ireturn, 1) := by decide +kernel
theorem dX9_giveCoins_0 : decode cX9_giveCoins 0 = .ok (.aload_n 0, 1) := by decide +kernel
theorem dX9_giveCoins_1 : decode cX9_giveCoins 1 = .ok (.invokevirtual 110, 3) := by decide +kernel
theorem dX9_giveCoins_4 : decode cX9_giveCoins 4 = .ok (.aload_n 0, 1) := by decide +kernel
theorem dX9_giveCoins_5 : decode cX9_giveCoins 5 = .ok (.aload_n 0, 1) := by decide +kernel
theorem dX9_giveCoins_6 : decode cX9_giveCoins 6 = .ok (.iload_n 1, 1) := by decide +kernel
theorem dX9_giveCoins_7 : decode cX9_giveCoins 7 = .ok (.iload_n 2, 1) := by decide +kernel
theorem dX9_giveCoins_8 : decode cX9_giveCoins 8 = .ok (.invokevirtual 132, 3) := by decide +kernel
theorem dX9_giveCoins_11 : decode cX9_giveCoins 11 = .ok (.invokevirtual 117, 3) := by decide +kernel
theorem dX9_giveCoins_14 : decode cX9_giveCoins 14 = .ok (.ireturn, 1) := by decide +kernel
theorem dX9_bidIt_0 : decode cX9_bidIt 0 = .ok (.aload_n 0, 1) := by decide +kernel
theorem dX9_bidIt_1 : decode cX9_bidIt 1 = .ok (.iload_n 1, 1) := by decide +kernel
theorem dX9_bidIt_2 : decode cX9_bidIt 2 = .ok (.invokevirtual 120, 3) := by decide +kernel
theorem dX9_bidIt_5 : decode cX9_bidIt 5 = .ok (.ifCond .ne 9, 3) := by decide +kernel
theorem dX9_bidIt_8 : decode cX9_bidIt 8 = .ok (.aload_n 0, 1) := by decide +kernel
theorem dX9_bidIt_9 : decode cX9_bidIt 9 = .ok (.iconst 1, 1) := by decide +kernel
theorem dX9_bidIt_10 : decode cX9_bidIt 10 = .ok (.invokevirtual 47, 3) := by decide +kernel
theorem dX9_bidIt_13 : decode cX9_bidIt 13 = .ok (.ireturn, 1) := by decide +kernel
theorem dX9_bidIt_14 : decode cX9_bidIt 14 = .ok (.iload_n 2, 1) := by decide +kernel
theorem dX9_bidIt_15 : decode cX9_bidIt 15 = .ok (.i2l, 1) := by decide +kernel
theorem dX9_bidIt_16 : decode cX9_bidIt 16 = .ok (.lconst 1, 1) := by decide +kernel
theorem dX9_bidIt_17 : decode cX9_bidIt 17 = .ok (.ldc2_w 124, 3) := by decide +kernel
theorem dX9_bidIt_20 : decode cX9_bidIt 20 = .ok (.invokestatic 63, 3) := by decide +kernel
theorem dX9_bidIt_23 : decode cX9_bidIt 23 = .ok (.ifCond .eq 15, 3) := by decide +kernel
theorem dX9_bidIt_26 : decode cX9_bidIt 26 = .ok (.iload_n 3, 1) := by decide +kernel
theorem dX9_bidIt_27 : decode cX9_bidIt 27 = .ok (.i2l, 1) := by decide +kernel
theorem dX9_bidIt_28 : decode cX9_bidIt 28 = .ok (.lconst 1, 1) := by decide +kernel
theorem dX9_bidIt_29 : decode cX9_bidIt 29 = .ok (.ldc2_w 102, 3) := by decide +kernel
theorem dX9_bidIt_32 : decode cX9_bidIt 32 = .ok (.invokestatic 63, 3) := by decide +kernel
theorem dX9_bidIt_35 : decode cX9_bidIt 35 = .ok (.ifCond .ne 9, 3) := by decide +kernel
theorem dX9_bidIt_38 : decode cX9_bidIt 38 = .ok (.aload_n 0, 1) := by decide +kernel
theorem dX9_bidIt_39 : decode cX9_bidIt 39 = .ok (.iconst 2, 1) := by decide +kernel
theorem dX9_bidIt_40 : decode cX9_bidIt 40 = .ok (.invokevirtual 47, 3) := by decide +kernel
theorem dX9_bidIt_43 : decode cX9_bidIt 43 = .ok (.ireturn, 1) := by decide +kernel
theorem dX9_bidIt_44 : decode cX9_bidIt 44 = .ok (.aload_n 0, 1) := by decide +kernel
theorem dX9_bidIt_45 : decode cX9_bidIt 45 = .ok (.getfield 9, 3) := by decide +kernel
theorem dX9_bidIt_48 : decode cX9_bidIt 48 = .ok (.iconst 2, 1) := by decide +kernel
theorem dX9_bidIt_49 : decode cX9_bidIt 49 = .ok (.iaload, 1) := by decide +kernel
theorem dX9_bidIt_50 : decode cX9_bidIt 50 = .ok (.bipush 10, 2) := by decide +kernel
theorem dX9_bidIt_52 : decode cX9_bidIt 52 = .ok (.if_icmp .ne 24, 3) := by decide +kernel
theorem dX9_bidIt_55 : decode cX9_bidIt 55 = .ok (.aload_n 0, 1) := by decide +kernel
theorem dX9_bidIt_56 : decode cX9_bidIt 56 = .ok (.iconst 3, 1) := by decide +kernel
theorem dX9_bidIt_57 : decode cX9_bidIt 57 = .ok (.iconst 4, 1) := by decide +kernel
theorem dX9_bidIt_58 : decode cX9_bidIt 58 = .ok (.aload_n 0, 1) := by decide +kernel
theorem dX9_bidIt_59 : decode cX9_bidIt 59 = .ok (.getfield 9, 3) := by decide +kernel
theorem dX9_bidIt_62 : decode cX9_bidIt 62 = .ok (.aload_n 0, 1) := by decide +kernel
theorem dX9_bidIt_63 : decode cX9_bidIt 63 = .ok (.bipush 9, 2) := by decide +kernel
theorem dX9_bidIt_65 : decode cX9_bidIt 65 = .ok (.invokevirtual 135, 3) := by decide +kernel
theorem dX9_bidIt_68 : decode cX9_bidIt 68 = .ok (.invokestatic 73, 3) := by decide +kernel
theorem dX9_bidIt_71 : decode cX9_bidIt 71 = .ok (.iaload, 1) := by decide +kernel
theorem dX9_bidIt_72 : decode cX9_bidIt 72 = .ok (.invokevirtual 106, 3) := by decide +kernel
theorem dX9_bidIt_75 : decode cX9_bidIt 75 = .ok (.ireturn, 1) := by decide +kernel
theorem dX9_bidIt_76 : decode cX9_bidIt 76 = .ok (.aload_n 0, 1) := by decide +kernel
theorem dX9_bidIt_77 : decode cX9_bidIt 77 = .ok (.iload_n 1, 1) := by decide +kernel
theorem dX9_bidIt_78 : decode cX9_bidIt 78 = .ok (.invokevirtual 126, 3) := by decide +kernel
theorem dX9_bidIt_81 : decode cX9_bidIt 81 = .ok (.ifCond .gt 15, 3) := by decide +kernel
theorem dX9_bidIt_84 : decode cX9_bidIt 84 = .ok (.aload_n 0, 1) := by decide +kernel
theorem dX9_bidIt_85 : decode cX9_bidIt 85 = .ok (.iconst 3, 1) := by decide +kernel
theorem dX9_bidIt_86 : decode cX9_bidIt 86 = .ok (.iconst 3, 1) := by decide +kernel
theorem dX9_bidIt_87 : decode cX9_bidIt 87 = .ok (.aload_n 0, 1) := by decide +kernel
theorem dX9_bidIt_88 : decode cX9_bidIt 88 = .ok (.iload_n 1, 1) := by decide +kernel
theorem dX9_bidIt_89 : decode cX9_bidIt 89 = .ok (.invokevirtual 76, 3) := by decide +kernel
theorem dX9_bidIt_92 : decode cX9_bidIt 92 = .ok (.invokevirtual 106, 3) := by decide +kernel
theorem dX9_bidIt_95 : decode cX9_bidIt 95 = .ok (.ireturn, 1) := by decide +kernel
theorem dX9_bidIt_96 : decode cX9_bidIt 96 = .ok (.aload_n 0, 1) := by decide +kernel
theorem dX9_bidIt_97 : decode cX9_bidIt 97 = .ok (.getfield 9, 3) := by decide +kernel
theorem dX9_bidIt_100 : decode cX9_bidIt 100 = .ok (.iload_n 1, 1) := by decide +kernel
theorem dX9_bidIt_101 : decode cX9_bidIt 101 = .ok (.invokestatic 67, 3) := by decide +kernel
theorem dX9_bidIt_104 : decode cX9_bidIt 104 = .ok (.iaload, 1) := by decide +kernel
theorem dX9_bidIt_105 : decode cX9_bidIt 105 = .ok (.aload_n 0, 1) := by decide +kernel
theorem dX9_bidIt_106 : decode cX9_bidIt 106 = .ok (.iload_n 1, 1) := by decide +kernel
theorem dX9_bidIt_107 : decode cX9_bidIt 107 = .ok (.invokevirtual 138, 3) := by decide +kernel
theorem dX9_bidIt_110 : decode cX9_bidIt 110 = .ok (.isub, 1) := by decide +kernel
theorem dX9_bidIt_111 : decode cX9_bidIt 111 = .ok (.istore 4, 2) := by decide +kernel
theorem dX9_bidIt_113 : decode cX9_bidIt 113 = .ok (.iload 4, 2) := by decide +kernel
theorem dX9_bidIt_115 : decode cX9_bidIt 115 = .ok (.iload_n 3, 1) := by decide +kernel
theorem dX9_bidIt_116 : decode cX9_bidIt 116 = .ok (.if_icmp .ge 12, 3) := by decide +kernel
theorem dX9_bidIt_119 : decode cX9_bidIt 119 = .ok (.aload_n 0, 1) := by decide +kernel
theorem dX9_bidIt_120 : decode cX9_bidIt 120 = .ok (.iconst 3, 1) := by decide +kernel
theorem dX9_bidIt_121 : decode cX9_bidIt 121 = .ok (.iconst 5, 1) := by decide +kernel
theorem dX9_bidIt_122 : decode cX9_bidIt 122 = .ok (.iload 4, 2) := by decide +kernel
theorem dX9_bidIt_124 : decode cX9_bidIt 124 = .ok (.invokevirtual 106, 3) := by decide +kernel
theorem dX9_bidIt_127 : decode cX9_bidIt 127 = .ok (.ireturn, 1) := by decide +kernel
theorem dX9_bidIt_128 : decode cX9_bidIt 128 = .ok (.aload_n 0, 1) := by decide +kernel
theorem dX9_bidIt_129 : decode cX9_bidIt 129 = .ok (.getfield 9, 3) := by decide +kernel
theorem dX9_bidIt_132 : decode cX9_bidIt 132 = .ok (.iconst 2, 1) := by decide +kernel
theorem dX9_bidIt_133 : decode cX9_bidIt 133 = .ok (.iaload, 1) := by decide +kernel
theorem dX9_bidIt_134 : decode cX9_bidIt 134 = .ok (.invokestatic 73, 3) := by decide +kernel
theorem dX9_bidIt_137 : decode cX9_bidIt 137 = .ok (.istore 5, 2) := by decide +kernel
theorem dX9_bidIt_139 : decode cX9_bidIt 139 = .ok (.aload_n 0, 1) := by decide +kernel
theorem dX9_bidIt_140 : decode cX9_bidIt 140 = .ok (.getfield 9, 3) := by decide +kernel
theorem dX9_bidIt_143 : decode cX9_bidIt 143 = .ok (.iload 5, 2) := by decide +kernel
theorem dX9_bidIt_145 : decode cX9_bidIt 145 = .ok (.aload_n 0, 1) := by decide +kernel
theorem dX9_bidIt_146 : decode cX9_bidIt 146 = .ok (.getfield 9, 3) := by decide +kernel
theorem dX9_bidIt_149 : decode cX9_bidIt 149 = .ok (.iconst 4, 1) := by decide +kernel
theorem dX9_bidIt_150 : decode cX9_bidIt 150 = .ok (.iaload, 1) := by decide +kernel
theorem dX9_bidIt_151 : decode cX9_bidIt 151 = .ok (.iastore, 1) := by decide +kernel
theorem dX9_bidIt_152 : decode cX9_bidIt 152 = .ok (.aload_n 0, 1) := by decide +kernel
theorem dX9_bidIt_153 : decode cX9_bidIt 153 = .ok (.getfield 9, 3) := by decide +kernel
theorem dX9_bidIt_156 : decode cX9_bidIt 156 = .ok (.iload 5, 2) := by decide +kernel
theorem dX9_bidIt_158 : decode cX9_bidIt 158 = .ok (.iconst 1, 1) := by decide +kernel
theorem dX9_bidIt_159 : decode cX9_bidIt 159 = .ok (.iadd, 1) := by decide +kernel
theorem dX9_bidIt_160 : decode cX9_bidIt 160 = .ok (.iload_n 1, 1) := by decide +kernel
theorem dX9_bidIt_161 : decode cX9_bidIt 161 = .ok (.iastore, 1) := by decide +kernel
theorem dX9_bidIt_162 : decode cX9_bidIt 162 = .ok (.aload_n 0, 1) := by decide +kernel
theorem dX9_bidIt_163 : decode cX9_bidIt 163 = .ok (.getfield 9, 3) := by decide +kernel
theorem dX9_bidIt_166 : decode cX9_bidIt 166 = .ok (.iload 5, 2) := by decide +kernel
theorem dX9_bidIt_168 : decode cX9_bidIt 168 = .ok (.iconst 2, 1) := by decide +kernel
theorem dX9_bidIt_169 : decode cX9_bidIt 169 = .ok (.iadd, 1) := by decide +kernel
theorem dX9_bidIt_170 : decode cX9_bidIt 170 = .ok (.iload_n 2, 1) := by decide +kernel
theorem dX9_bidIt_171 : decode cX9_bidIt 171 = .ok (.iastore, 1) := by decide +kernel
theorem dX9_bidIt_172 : decode cX9_bidIt 172 = .ok (.aload_n 0, 1) := by decide +kernel
theorem dX9_bidIt_173 : decode cX9_bidIt 173 = .ok (.getfield 9, 3) := by decide +kernel
theorem dX9_bidIt_176 : decode cX9_bidIt 176 = .ok (.iload 5, 2) := by decide +kernel
theorem dX9_bidIt_178 : decode cX9_bidIt 178 = .ok (.iconst 3, 1) := by decide +kernel
theorem dX9_bidIt_179 : decode cX9_bidIt 179 = .ok (.iadd, 1) := by decide +kernel
theorem dX9_bidIt_180 : decode cX9_bidIt 180 = .ok (.iload_n 3, 1) := by decide +kernel
theorem dX9_bidIt_181 : decode cX9_bidIt 181 = .ok (.iastore, 1) := by decide +kernel
theorem dX9_bidIt_182 : decode cX9_bidIt 182 = .ok (.aload_n 0, 1) := by decide +kernel
theorem dX9_bidIt_183 : decode cX9_bidIt 183 = .ok (.getfield 9, 3) := by decide +kernel
theorem dX9_bidIt_186 : decode cX9_bidIt 186 = .ok (.iload 5, 2) := by decide +kernel
theorem dX9_bidIt_188 : decode cX9_bidIt 188 = .ok (.iconst 4, 1) := by decide +kernel
theorem dX9_bidIt_189 : decode cX9_bidIt 189 = .ok (.iadd, 1) := by decide +kernel
theorem dX9_bidIt_190 : decode cX9_bidIt 190 = .ok (.iconst 0, 1) := by decide +kernel
theorem dX9_bidIt_191 : decode cX9_bidIt 191 = .ok (.iastore, 1) := by decide +kernel
theorem dX9_bidIt_192 : decode cX9_bidIt 192 = .ok (.aload_n 0, 1) := by decide +kernel
theorem dX9_bidIt_193 : decode cX9_bidIt 193 = .ok (.getfield 9, 3) := by decide +kernel
theorem dX9_bidIt_196 : decode cX9_bidIt 196 = .ok (.iconst 2, 1) := by decide +kernel
theorem dX9_bidIt_197 : decode cX9_bidIt 197 = .ok (.dup2, 1) := by decide +kernel
theorem dX9_bidIt_198 : decode cX9_bidIt 198 = .ok (.iaload, 1) := by decide +kernel
theorem dX9_bidIt_199 : decode cX9_bidIt 199 = .ok (.iconst 1, 1) := by decide +kernel
theorem dX9_bidIt_200 : decode cX9_bidIt 200 = .ok (.iadd, 1) := by decide +kernel
theorem dX9_bidIt_201 : decode cX9_bidIt 201 = .ok (.iastore, 1) := by decide +kernel
theorem dX9_bidIt_202 : decode cX9_bidIt 202 = .ok (.aload_n 0, 1) := by decide +kernel
theorem dX9_bidIt_203 : decode cX9_bidIt 203 = .ok (.getfield 9, 3) := by decide +kernel
theorem dX9_bidIt_206 : decode cX9_bidIt 206 = .ok (.iconst 4, 1) := by decide +kernel
theorem dX9_bidIt_207 : decode cX9_bidIt 207 = .ok (.dup2, 1) := by decide +kernel
theorem dX9_bidIt_208 : decode cX9_bidIt 208 = .ok (.iaload, 1) := by decide +kernel
theorem dX9_bidIt_209 : decode cX9_bidIt 209 = .ok (.iconst 1, 1) := by decide +kernel
theorem dX9_bidIt_210 : decode cX9_bidIt 210 = .ok (.iadd, 1) := by decide +kernel
theorem dX9_bidIt_211 : decode cX9_bidIt 211 = .ok (.iastore, 1) := by decide +kernel
theorem dX9_bidIt_212 : decode cX9_bidIt 212 = .ok (.aload_n 0, 1) := by decide +kernel
theorem dX9_bidIt_213 : decode cX9_bidIt 213 = .ok (.getfield 9, 3) := by decide +kernel
theorem dX9_bidIt_216 : decode cX9_bidIt 216 = .ok (.iload 5, 2) := by decide +kernel
theorem dX9_bidIt_218 : decode cX9_bidIt 218 = .ok (.iaload, 1) := by decide +kernel
theorem dX9_bidIt_219 : decode cX9_bidIt 219 = .ok (.ireturn, 1) := by decide +kernel
theorem dX9_placeBid_0 : decode cX9_placeBid 0 = .ok (.aload_n 0, 1) := by decide +kernel
theorem dX9_placeBid_1 : decode cX9_placeBid 1 = .ok (.invokevirtual 110, 3) := by decide +kernel
theorem dX9_placeBid_4 : decode cX9_placeBid 4 = .ok (.aload_n 0, 1) := by decide +kernel
theorem dX9_placeBid_5 : decode cX9_placeBid 5 = .ok (.aload_n 0, 1) := by decide +kernel
theorem dX9_placeBid_6 : decode cX9_placeBid 6 = .ok (.iload_n 1, 1) := by decide +kernel
theorem dX9_placeBid_7 : decode cX9_placeBid 7 = .ok (.iload_n 2, 1) := by decide +kernel
theorem dX9_placeBid_8 : decode cX9_placeBid 8 = .ok (.iload_n 3, 1) := by decide +kernel
theorem dX9_placeBid_9 : decode cX9_placeBid 9 = .ok (.invokevirtual 141, 3) := by decide +kernel
theorem dX9_placeBid_12 : decode cX9_placeBid 12 = .ok (.invokevirtual 117, 3) := by decide +kernel
theorem dX9_placeBid_15 : decode cX9_placeBid 15 = .ok (.ireturn, 1) := by decide +kernel
theorem dX9_offerIt_0 : decode cX9_offerIt 0 = .ok (.aload_n 0, 1) := by decide +kernel
theorem dX9_offerIt_1 : decode cX9_offerIt 1 = .ok (.iload_n 1, 1) := by decide +kernel
theorem dX9_offerIt_2 : decode cX9_offerIt 2 = .ok (.invokevirtual 144, 3) := by decide +kernel
theorem dX9_offerIt_5 : decode cX9_offerIt 5 = .ok (.ifCond .ne 9, 3) := by decide +kernel
theorem dX9_offerIt_8 : decode cX9_offerIt 8 = .ok (.aload_n 0, 1) := by decide +kernel
theorem dX9_offerIt_9 : decode cX9_offerIt 9 = .ok (.iconst 1, 1) := by decide +kernel
theorem dX9_offerIt_10 : decode cX9_offerIt 10 = .ok (.invokevirtual 47, 3) := by decide +kernel
theorem dX9_offerIt_13 : decode cX9_offerIt 13 = .ok (.ireturn, 1) := by decide +kernel
theorem dX9_offerIt_14 : decode cX9_offerIt 14 = .ok (.iload_n 2, 1) := by decide +kernel
theorem dX9_offerIt_15 : decode cX9_offerIt 15 = .ok (.i2l, 1) := by decide +kernel
theorem dX9_offerIt_16 : decode cX9_offerIt 16 = .ok (.lconst 1, 1) := by decide +kernel
theorem dX9_offerIt_17 : decode cX9_offerIt 17 = .ok (.ldc2_w 102, 3) := by decide +kernel
theorem dX9_offerIt_20 : decode cX9_offerIt 20 = .ok (.invokestatic 63, 3) := by decide +kernel
theorem dX9_offerIt_23 : decode cX9_offerIt 23 = .ok (.ifCond .ne 9, 3) := by decide +kernel
theorem dX9_offerIt_26 : decode cX9_offerIt 26 = .ok (.aload_n 0, 1) := by decide +kernel
theorem dX9_offerIt_27 : decode cX9_offerIt 27 = .ok (.iconst 2, 1) := by decide +kernel
theorem dX9_offerIt_28 : decode cX9_offerIt 28 = .ok (.invokevirtual 47, 3) := by decide +kernel
theorem dX9_offerIt_31 : decode cX9_offerIt 31 = .ok (.ireturn, 1) := by decide +kernel
theorem dX9_offerIt_32 : decode cX9_offerIt 32 = .ok (.aload_n 0, 1) := by decide +kernel
theorem dX9_offerIt_33 : decode cX9_offerIt 33 = .ok (.iload_n 1, 1) := by decide +kernel
theorem dX9_offerIt_34 : decode cX9_offerIt 34 = .ok (.invokevirtual 147, 3) := by decide +kernel
theorem dX9_offerIt_37 : decode cX9_offerIt 37 = .ok (.iconst (-1), 1) := by decide +kernel
theorem dX9_offerIt_38 : decode cX9_offerIt 38 = .ok (.if_icmp .eq 24, 3) := by decide +kernel
theorem dX9_offerIt_41 : decode cX9_offerIt 41 = .ok (.aload_n 0, 1) := by decide +kernel
theorem dX9_offerIt_42 : decode cX9_offerIt 42 = .ok (.iconst 3, 1) := by decide +kernel
theorem dX9_offerIt_43 : decode cX9_offerIt 43 = .ok (.bipush 6, 2) := by decide +kernel
theorem dX9_offerIt_45 : decode cX9_offerIt 45 = .ok (.aload_n 0, 1) := by decide +kernel
theorem dX9_offerIt_46 : decode cX9_offerIt 46 = .ok (.getfield 9, 3) := by decide +kernel
theorem dX9_offerIt_49 : decode cX9_offerIt 49 = .ok (.aload_n 0, 1) := by decide +kernel
theorem dX9_offerIt_50 : decode cX9_offerIt 50 = .ok (.iload_n 1, 1) := by decide +kernel
theorem dX9_offerIt_51 : decode cX9_offerIt 51 = .ok (.invokevirtual 147, 3) := by decide +kernel
theorem dX9_offerIt_54 : decode cX9_offerIt 54 = .ok (.invokestatic 82, 3) := by decide +kernel
theorem dX9_offerIt_57 : decode cX9_offerIt 57 = .ok (.iaload, 1) := by decide +kernel
theorem dX9_offerIt_58 : decode cX9_offerIt 58 = .ok (.invokevirtual 106, 3) := by decide +kernel
theorem dX9_offerIt_61 : decode cX9_offerIt 61 = .ok (.ireturn, 1) := by decide +kernel
theorem dX9_offerIt_62 : decode cX9_offerIt 62 = .ok (.aload_n 0, 1) := by decide +kernel
theorem dX9_offerIt_63 : decode cX9_offerIt 63 = .ok (.getfield 9, 3) := by decide +kernel
theorem dX9_offerIt_66 : decode cX9_offerIt 66 = .ok (.iconst 3, 1) := by decide +kernel
theorem dX9_offerIt_67 : decode cX9_offerIt 67 = .ok (.iaload, 1) := by decide +kernel
theorem dX9_offerIt_68 : decode cX9_offerIt 68 = .ok (.invokestatic 82, 3) := by decide +kernel
theorem dX9_offerIt_71 : decode cX9_offerIt 71 = .ok (.istore_n 3, 1) := by decide +kernel
theorem dX9_offerIt_72 : decode cX9_offerIt 72 = .ok (.aload_n 0, 1) := by decide +kernel
theorem dX9_offerIt_73 : decode cX9_offerIt 73 = .ok (.getfield 9, 3) := by decide +kernel
theorem dX9_offerIt_76 : decode cX9_offerIt 76 = .ok (.iload_n 3, 1) := by decide +kernel
theorem dX9_offerIt_77 : decode cX9_offerIt 77 = .ok (.aload_n 0, 1) := by decide +kernel
theorem dX9_offerIt_78 : decode cX9_offerIt 78 = .ok (.getfield 9, 3) := by decide +kernel
theorem dX9_offerIt_81 : decode cX9_offerIt 81 = .ok (.iconst 5, 1) := by decide +kernel
theorem dX9_offerIt_82 : decode cX9_offerIt 82 = .ok (.iaload, 1) := by decide +kernel
theorem dX9_offerIt_83 : decode cX9_offerIt 83 = .ok (.iastore, 1) := by decide +kernel
theorem dX9_offerIt_84 : decode cX9_offerIt 84 = .ok (.aload_n 0, 1) := by decide +kernel
theorem dX9_offerIt_85 : decode cX9_offerIt 85 = .ok (.getfield 9, 3) := by decide +kernel
theorem dX9_offerIt_88 : decode cX9_offerIt 88 = .ok (.iload_n 3, 1) := by decide +kernel
theorem dX9_offerIt_89 : decode cX9_offerIt 89 = .ok (.iconst 1, 1) := by decide +kernel
theorem dX9_offerIt_90 : decode cX9_offerIt 90 = .ok (.iadd, 1) := by decide +kernel
theorem dX9_offerIt_91 : decode cX9_offerIt 91 = .ok (.iload_n 1, 1) := by decide +kernel
theorem dX9_offerIt_92 : decode cX9_offerIt 92 = .ok (.iastore, 1) := by decide +kernel
theorem dX9_offerIt_93 : decode cX9_offerIt 93 = .ok (.aload_n 0, 1) := by decide +kernel
theorem dX9_offerIt_94 : decode cX9_offerIt 94 = .ok (.getfield 9, 3) := by decide +kernel
theorem dX9_offerIt_97 : decode cX9_offerIt 97 = .ok (.iload_n 3, 1) := by decide +kernel
theorem dX9_offerIt_98 : decode cX9_offerIt 98 = .ok (.iconst 2, 1) := by decide +kernel
theorem dX9_offerIt_99 : decode cX9_offerIt 99 = .ok (.iadd, 1) := by decide +kernel
theorem dX9_offerIt_100 : decode cX9_offerIt 100 = .ok (.iload_n 2, 1) := by decide +kernel
theorem dX9_offerIt_101 : decode cX9_offerIt 101 = .ok (.iastore, 1) := by decide +kernel
theorem dX9_offerIt_102 : decode cX9_offerIt 102 = .ok (.aload_n 0, 1) := by decide +kernel
theorem dX9_offerIt_103 : decode cX9_offerIt 103 = .ok (.getfield 9, 3) := by decide +kernel
theorem dX9_offerIt_106 : decode cX9_offerIt 106 = .ok (.iload_n 3, 1) := by decide +kernel
theorem dX9_offerIt_107 : decode cX9_offerIt 107 = .ok (.iconst 3, 1) := by decide +kernel
theorem dX9_offerIt_108 : decode cX9_offerIt 108 = .ok (.iadd, 1) := by decide +kernel
theorem dX9_offerIt_109 : decode cX9_offerIt 109 = .ok (.iconst 0, 1) := by decide +kernel
theorem dX9_offerIt_110 : decode cX9_offerIt 110 = .ok (.iastore, 1) := by decide +kernel
theorem dX9_offerIt_111 : decode cX9_offerIt 111 = .ok (.aload_n 0, 1) := by decide +kernel
theorem dX9_offerIt_112 : decode cX9_offerIt 112 = .ok (.getfield 9, 3) := by decide +kernel
theorem dX9_offerIt_115 : decode cX9_offerIt 115 = .ok (.iconst 3, 1) := by decide +kernel
theorem dX9_offerIt_116 : decode cX9_offerIt 116 = .ok (.dup2, 1) := by decide +kernel
theorem dX9_offerIt_117 : decode cX9_offerIt 117 = .ok (.iaload, 1) := by decide +kernel
theorem dX9_offerIt_118 : decode cX9_offerIt 118 = .ok (.iconst 1, 1) := by decide +kernel
theorem dX9_offerIt_119 : decode cX9_offerIt 119 = .ok (.iadd, 1) := by decide +kernel
theorem dX9_offerIt_120 : decode cX9_offerIt 120 = .ok (.iastore, 1) := by decide +kernel
theorem dX9_offerIt_121 : decode cX9_offerIt 121 = .ok (.aload_n 0, 1) := by decide +kernel
theorem dX9_offerIt_122 : decode cX9_offerIt 122 = .ok (.getfield 9, 3) := by decide +kernel
theorem dX9_offerIt_125 : decode cX9_offerIt 125 = .ok (.iconst 5, 1) := by decide +kernel
theorem dX9_offerIt_126 : decode cX9_offerIt 126 = .ok (.dup2, 1) := by decide +kernel
theorem dX9_offerIt_127 : decode cX9_offerIt 127 = .ok (.iaload, 1) := by decide +kernel
theorem dX9_offerIt_128 : decode cX9_offerIt 128 = .ok (.iconst 1, 1) := by decide +kernel
theorem dX9_offerIt_129 : decode cX9_offerIt 129 = .ok (.iadd, 1) := by decide +kernel
theorem dX9_offerIt_130 : decode cX9_offerIt 130 = .ok (.iastore, 1) := by decide +kernel
theorem dX9_offerIt_131 : decode cX9_offerIt 131 = .ok (.aload_n 0, 1) := by decide +kernel
theorem dX9_offerIt_132 : decode cX9_offerIt 132 = .ok (.getfield 9, 3) := by decide +kernel
theorem dX9_offerIt_135 : decode cX9_offerIt 135 = .ok (.iload_n 3, 1) := by decide +kernel
theorem dX9_offerIt_136 : decode cX9_offerIt 136 = .ok (.iaload, 1) := by decide +kernel
theorem dX9_offerIt_137 : decode cX9_offerIt 137 = .ok (.ireturn, 1) := by decide +kernel
theorem dX9_placeOffer_0 : decode cX9_placeOffer 0 = .ok (.aload_n 0, 1) := by decide +kernel
theorem dX9_placeOffer_1 : decode cX9_placeOffer 1 = .ok (.invokevirtual 110, 3) := by decide +kernel
theorem dX9_placeOffer_4 : decode cX9_placeOffer 4 = .ok (.aload_n 0, 1) := by decide +kernel
theorem dX9_placeOffer_5 : decode cX9_placeOffer 5 = .ok (.aload_n 0, 1) := by decide +kernel
theorem dX9_placeOffer_6 : decode cX9_placeOffer 6 = .ok (.iload_n 1, 1) := by decide +kernel
theorem dX9_placeOffer_7 : decode cX9_placeOffer 7 = .ok (.iload_n 2, 1) := by decide +kernel
theorem dX9_placeOffer_8 : decode cX9_placeOffer 8 = .ok (.invokevirtual 150, 3) := by decide +kernel
theorem dX9_placeOffer_11 : decode cX9_placeOffer 11 = .ok (.invokevirtual 117, 3) := by decide +kernel
theorem dX9_placeOffer_14 : decode cX9_placeOffer 14 = .ok (.ireturn, 1) := by decide +kernel
theorem dX9_cancelBidIt_0 : decode cX9_cancelBidIt 0 = .ok (.aload_n 0, 1) := by decide +kernel
theorem dX9_cancelBidIt_1 : decode cX9_cancelBidIt 1 = .ok (.iload_n 1, 1) := by decide +kernel
theorem dX9_cancelBidIt_2 : decode cX9_cancelBidIt 2 = .ok (.invokevirtual 153, 3) := by decide +kernel
theorem dX9_cancelBidIt_5 : decode cX9_cancelBidIt 5 = .ok (.iconst (-1), 1) := by decide +kernel
theorem dX9_cancelBidIt_6 : decode cX9_cancelBidIt 6 = .ok (.if_icmp .ne 9, 3) := by decide +kernel
theorem dX9_cancelBidIt_9 : decode cX9_cancelBidIt 9 = .ok (.aload_n 0, 1) := by decide +kernel
theorem dX9_cancelBidIt_10 : decode cX9_cancelBidIt 10 = .ok (.iconst 1, 1) := by decide +kernel
theorem dX9_cancelBidIt_11 : decode cX9_cancelBidIt 11 = .ok (.invokevirtual 47, 3) := by decide +kernel
theorem dX9_cancelBidIt_14 : decode cX9_cancelBidIt 14 = .ok (.ireturn, 1) := by decide +kernel
theorem dX9_cancelBidIt_15 : decode cX9_cancelBidIt 15 = .ok (.aload_n 0, 1) := by decide +kernel
theorem dX9_cancelBidIt_16 : decode cX9_cancelBidIt 16 = .ok (.aload_n 0, 1) := by decide +kernel
theorem dX9_cancelBidIt_17 : decode cX9_cancelBidIt 17 = .ok (.iload_n 1, 1) := by decide +kernel
theorem dX9_cancelBidIt_18 : decode cX9_cancelBidIt 18 = .ok (.invokevirtual 153, 3) := by decide +kernel
theorem dX9_cancelBidIt_21 : decode cX9_cancelBidIt 21 = .ok (.invokevirtual 156, 3) := by decide +kernel
theorem dX9_cancelBidIt_24 : decode cX9_cancelBidIt 24 = .ok (.aload_n 0, 1) := by decide +kernel
theorem dX9_cancelBidIt_25 : decode cX9_cancelBidIt 25 = .ok (.getfield 9, 3) := by decide +kernel
theorem dX9_cancelBidIt_28 : decode cX9_cancelBidIt 28 = .ok (.iconst 2, 1) := by decide +kernel
theorem dX9_cancelBidIt_29 : decode cX9_cancelBidIt 29 = .ok (.iaload, 1) := by decide +kernel
theorem dX9_cancelBidIt_30 : decode cX9_cancelBidIt 30 = .ok (.ireturn, 1) := by decide +kernel
theorem dX9_cancelBid_0 : decode cX9_cancelBid 0 = .ok (.aload_n 0, 1) := by decide +kernel
theorem dX9_cancelBid_1 : decode cX9_cancelBid 1 = .ok (.invokevirtual 110, 3) := by decide +kernel
theorem dX9_cancelBid_4 : decode cX9_cancelBid 4 = .ok (.aload_n 0, 1) := by decide +kernel
theorem dX9_cancelBid_5 : decode cX9_cancelBid 5 = .ok (.aload_n 0, 1) := by decide +kernel
theorem dX9_cancelBid_6 : decode cX9_cancelBid 6 = .ok (.iload_n 1, 1) := by decide +kernel
theorem dX9_cancelBid_7 : decode cX9_cancelBid 7 = .ok (.invokevirtual 160, 3) := by decide +kernel
theorem dX9_cancelBid_10 : decode cX9_cancelBid 10 = .ok (.invokevirtual 117, 3) := by decide +kernel
theorem dX9_cancelBid_13 : decode cX9_cancelBid 13 = .ok (.ireturn, 1) := by decide +kernel
theorem dX9_cancelOfferIt_0 : decode cX9_cancelOfferIt 0 = .ok (.aload_n 0, 1) := by decide +kernel
theorem dX9_cancelOfferIt_1 : decode cX9_cancelOfferIt 1 = .ok (.iload_n 1, 1) := by decide +kernel
theorem dX9_cancelOfferIt_2 : decode cX9_cancelOfferIt 2 = .ok (.invokevirtual 163, 3) := by decide +kernel
theorem dX9_cancelOfferIt_5 : decode cX9_cancelOfferIt 5 = .ok (.iconst (-1), 1) := by decide +kernel
theorem dX9_cancelOfferIt_6 : decode cX9_cancelOfferIt 6 = .ok (.if_icmp .ne 9, 3) := by decide +kernel
theorem dX9_cancelOfferIt_9 : decode cX9_cancelOfferIt 9 = .ok (.aload_n 0, 1) := by decide +kernel
theorem dX9_cancelOfferIt_10 : decode cX9_cancelOfferIt 10 = .ok (.iconst 1, 1) := by decide +kernel
theorem dX9_cancelOfferIt_11 : decode cX9_cancelOfferIt 11 = .ok (.invokevirtual 47, 3) := by decide +kernel
theorem dX9_cancelOfferIt_14 : decode cX9_cancelOfferIt 14 = .ok (.ireturn, 1) := by decide +kernel
theorem dX9_cancelOfferIt_15 : decode cX9_cancelOfferIt 15 = .ok (.aload_n 0, 1) := by decide +kernel
theorem dX9_cancelOfferIt_16 : decode cX9_cancelOfferIt 16 = .ok (.aload_n 0, 1) := by decide +kernel
theorem dX9_cancelOfferIt_17 : decode cX9_cancelOfferIt 17 = .ok (.iload_n 1, 1) := by decide +kernel
theorem dX9_cancelOfferIt_18 : decode cX9_cancelOfferIt 18 = .ok (.invokevirtual 163, 3) := by decide +kernel
theorem dX9_cancelOfferIt_21 : decode cX9_cancelOfferIt 21 = .ok (.invokevirtual 166, 3) := by decide +kernel
theorem dX9_cancelOfferIt_24 : decode cX9_cancelOfferIt 24 = .ok (.aload_n 0, 1) := by decide +kernel
theorem dX9_cancelOfferIt_25 : decode cX9_cancelOfferIt 25 = .ok (.getfield 9, 3) := by decide +kernel
theorem dX9_cancelOfferIt_28 : decode cX9_cancelOfferIt 28 = .ok (.iconst 3, 1) := by decide +kernel
theorem dX9_cancelOfferIt_29 : decode cX9_cancelOfferIt 29 = .ok (.iaload, 1) := by decide +kernel
theorem dX9_cancelOfferIt_30 : decode cX9_cancelOfferIt 30 = .ok (.ireturn, 1) := by decide +kernel
theorem dX9_cancelOffer_0 : decode cX9_cancelOffer 0 = .ok (.aload_n 0, 1) := by decide +kernel
theorem dX9_cancelOffer_1 : decode cX9_cancelOffer 1 = .ok (.invokevirtual 110, 3) := by decide +kernel
theorem dX9_cancelOffer_4 : decode cX9_cancelOffer 4 = .ok (.aload_n 0, 1) := by decide +kernel
theorem dX9_cancelOffer_5 : decode cX9_cancelOffer 5 = .ok (.aload_n 0, 1) := by decide +kernel
theorem dX9_cancelOffer_6 : decode cX9_cancelOffer 6 = .ok (.iload_n 1, 1) := by decide +kernel
theorem dX9_cancelOffer_7 : decode cX9_cancelOffer 7 = .ok (.invokevirtual 169, 3) := by decide +kernel
theorem dX9_cancelOffer_10 : decode cX9_cancelOffer 10 = .ok (.invokevirtual 117, 3) := by decide +kernel
theorem dX9_cancelOffer_13 : decode cX9_cancelOffer 13 = .ok (.ireturn, 1) := by decide +kernel
theorem dX9_remembers_0 : decode cX9_remembers 0 = .ok (.sipush 211, 3) := by decide +kernel
theorem dX9_remembers_3 : decode cX9_remembers 3 = .ok (.istore 5, 2) := by decide +kernel
theorem dX9_remembers_5 : decode cX9_remembers 5 = .ok (.iload 5, 2) := by decide +kernel
theorem dX9_remembers_7 : decode cX9_remembers 7 = .ok (.sipush 176, 3) := by decide +kernel
theorem dX9_remembers_10 : decode cX9_remembers 10 = .ok (.if_icmp .lt 25, 3) := by decide +kernel
theorem dX9_remembers_13 : decode cX9_remembers 13 = .ok (.aload_n 0, 1) := by decide +kernel
theorem dX9_remembers_14 : decode cX9_remembers 14 = .ok (.getfield 9, 3) := by decide +kernel
theorem dX9_remembers_17 : decode cX9_remembers 17 = .ok (.iload 5, 2) := by decide +kernel
theorem dX9_remembers_19 : decode cX9_remembers 19 = .ok (.aload_n 0, 1) := by decide +kernel
theorem dX9_remembers_20 : decode cX9_remembers 20 = .ok (.getfield 9, 3) := by decide +kernel
theorem dX9_remembers_23 : decode cX9_remembers 23 = .ok (.iload 5, 2) := by decide +kernel
theorem dX9_remembers_25 : decode cX9_remembers 25 = .ok (.iconst 4, 1) := by decide +kernel
theorem dX9_remembers_26 : decode cX9_remembers 26 = .ok (.isub, 1) := by decide +kernel
theorem dX9_remembers_27 : decode cX9_remembers 27 = .ok (.iaload, 1) := by decide +kernel
theorem dX9_remembers_28 : decode cX9_remembers 28 = .ok (.iastore, 1) := by decide +kernel
theorem dX9_remembers_29 : decode cX9_remembers 29 = .ok (.iinc 5 (-1), 3) := by decide +kernel
theorem dX9_remembers_32 : decode cX9_remembers 32 = .ok (.goto (-27), 3) := by decide +kernel
theorem dX9_remembers_35 : decode cX9_remembers 35 = .ok (.aload_n 0, 1) := by decide +kernel
theorem dX9_remembers_36 : decode cX9_remembers 36 = .ok (.getfield 9, 3) := by decide +kernel
theorem dX9_remembers_39 : decode cX9_remembers 39 = .ok (.sipush 172, 3) := by decide +kernel
theorem dX9_remembers_42 : decode cX9_remembers 42 = .ok (.iload_n 1, 1) := by decide +kernel
theorem dX9_remembers_43 : decode cX9_remembers 43 = .ok (.iastore, 1) := by decide +kernel
theorem dX9_remembers_44 : decode cX9_remembers 44 = .ok (.aload_n 0, 1) := by decide +kernel
theorem dX9_remembers_45 : decode cX9_remembers 45 = .ok (.getfield 9, 3) := by decide +kernel
theorem dX9_remembers_48 : decode cX9_remembers 48 = .ok (.sipush 173, 3) := by decide +kernel
theorem dX9_remembers_51 : decode cX9_remembers 51 = .ok (.iload_n 2, 1) := by decide +kernel
theorem dX9_remembers_52 : decode cX9_remembers 52 = .ok (.iastore, 1) := by decide +kernel
theorem dX9_remembers_53 : decode cX9_remembers 53 = .ok (.aload_n 0, 1) := by decide +kernel
theorem dX9_remembers_54 : decode cX9_remembers 54 = .ok (.getfield 9, 3) := by decide +kernel
theorem dX9_remembers_57 : decode cX9_remembers 57 = .ok (.sipush 174, 3) := by decide +kernel
theorem dX9_remembers_60 : decode cX9_remembers 60 = .ok (.iload_n 3, 1) := by decide +kernel
theorem dX9_remembers_61 : decode cX9_remembers 61 = .ok (.iastore, 1) := by decide +kernel
theorem dX9_remembers_62 : decode cX9_remembers 62 = .ok (.aload_n 0, 1) := by decide +kernel
theorem dX9_remembers_63 : decode cX9_remembers 63 = .ok (.getfield 9, 3) := by decide +kernel
theorem dX9_remembers_66 : decode cX9_remembers 66 = .ok (.sipush 175, 3) := by decide +kernel
theorem dX9_remembers_69 : decode cX9_remembers 69 = .ok (.iload 4, 2) := by decide +kernel
theorem dX9_remembers_71 : decode cX9_remembers 71 = .ok (.iastore, 1) := by decide +kernel
theorem dX9_remembers_72 : decode cX9_remembers 72 = .ok (.aload_n 0, 1) := by decide +kernel
theorem dX9_remembers_73 : decode cX9_remembers 73 = .ok (.getfield 9, 3) := by decide +kernel
theorem dX9_remembers_76 : decode cX9_remembers 76 = .ok (.bipush 13, 2) := by decide +kernel
theorem dX9_remembers_78 : decode cX9_remembers 78 = .ok (.bipush 10, 2) := by decide +kernel
theorem dX9_remembers_80 : decode cX9_remembers 80 = .ok (.aload_n 0, 1) := by decide +kernel
theorem dX9_remembers_81 : decode cX9_remembers 81 = .ok (.getfield 9, 3) := by decide +kernel
theorem dX9_remembers_84 : decode cX9_remembers 84 = .ok (.bipush 13, 2) := by decide +kernel
theorem dX9_remembers_86 : decode cX9_remembers 86 = .ok (.iaload, 1) := by decide +kernel
theorem dX9_remembers_87 : decode cX9_remembers 87 = .ok (.iconst 1, 1) := by decide +kernel
theorem dX9_remembers_88 : decode cX9_remembers 88 = .ok (.iadd, 1) := by decide +kernel
theorem dX9_remembers_89 : decode cX9_remembers 89 = .ok (.invokestatic 172, 3) := by decide +kernel
theorem dX9_remembers_92 : decode cX9_remembers 92 = .ok (.iastore, 1) := by decide +kernel
theorem dX9_remembers_93 : decode cX9_remembers 93 = .ok (.return_, 1) := by decide +kernel
theorem dX9_trades_0 : decode cX9_trades 0 = .ok (.aload_n 0, 1) := by decide +kernel
theorem dX9_trades_1 : decode cX9_trades 1 = .ok (.getfield 9, 3) := by decide +kernel
theorem dX9_trades_4 : decode cX9_trades 4 = .ok (.iload_n 2, 1) := by decide +kernel
theorem dX9_trades_5 : decode cX9_trades 5 = .ok (.invokestatic 82, 3) := by decide +kernel
theorem dX9_trades_8 : decode cX9_trades 8 = .ok (.iconst 1, 1) := by decide +kernel
theorem dX9_trades_9 : decode cX9_trades 9 = .ok (.iadd, 1) := by decide +kernel
theorem dX9_trades_10 : decode cX9_trades 10 = .ok (.iaload, 1) := by decide +kernel
theorem dX9_trades_11 : decode cX9_trades 11 = .ok (.istore_n 3, 1) := by decide +kernel
theorem dX9_trades_12 : decode cX9_trades 12 = .ok (.aload_n 0, 1) := by decide +kernel
theorem dX9_trades_13 : decode cX9_trades 13 = .ok (.getfield 9, 3) := by decide +kernel
theorem dX9_trades_16 : decode cX9_trades 16 = .ok (.iload_n 1, 1) := by decide +kernel
theorem dX9_trades_17 : decode cX9_trades 17 = .ok (.invokestatic 73, 3) := by decide +kernel
theorem dX9_trades_20 : decode cX9_trades 20 = .ok (.iconst 1, 1) := by decide +kernel
theorem dX9_trades_21 : decode cX9_trades 21 = .ok (.iadd, 1) := by decide +kernel
theorem dX9_trades_22 : decode cX9_trades 22 = .ok (.iaload, 1) := by decide +kernel
theorem dX9_trades_23 : decode cX9_trades 23 = .ok (.istore 4, 2) := by decide +kernel
theorem dX9_trades_25 : decode cX9_trades 25 = .ok (.aload_n 0, 1) := by decide +kernel
theorem dX9_trades_26 : decode cX9_trades 26 = .ok (.getfield 9, 3) := by decide +kernel
theorem dX9_trades_29 : decode cX9_trades 29 = .ok (.iload_n 3, 1) := by decide +kernel
theorem dX9_trades_30 : decode cX9_trades 30 = .ok (.invokestatic 70, 3) := by decide +kernel
theorem dX9_trades_33 : decode cX9_trades 33 = .ok (.iaload, 1) := by decide +kernel
theorem dX9_trades_34 : decode cX9_trades 34 = .ok (.istore 5, 2) := by decide +kernel
theorem dX9_trades_36 : decode cX9_trades 36 = .ok (.aload_n 0, 1) := by decide +kernel
theorem dX9_trades_37 : decode cX9_trades 37 = .ok (.getfield 9, 3) := by decide +kernel
theorem dX9_trades_40 : decode cX9_trades 40 = .ok (.iload_n 1, 1) := by decide +kernel
theorem dX9_trades_41 : decode cX9_trades 41 = .ok (.invokestatic 73, 3) := by decide +kernel
theorem dX9_trades_44 : decode cX9_trades 44 = .ok (.iconst 3, 1) := by decide +kernel
theorem dX9_trades_45 : decode cX9_trades 45 = .ok (.iadd, 1) := by decide +kernel
theorem dX9_trades_46 : decode cX9_trades 46 = .ok (.iaload, 1) := by decide +kernel
theorem dX9_trades_47 : decode cX9_trades 47 = .ok (.aload_n 0, 1) := by decide +kernel
theorem dX9_trades_48 : decode cX9_trades 48 = .ok (.getfield 9, 3) := by decide +kernel
theorem dX9_trades_51 : decode cX9_trades 51 = .ok (.iload_n 2, 1) := by decide +kernel
theorem dX9_trades_52 : decode cX9_trades 52 = .ok (.invokestatic 82, 3) := by decide +kernel
theorem dX9_trades_55 : decode cX9_trades 55 = .ok (.iconst 2, 1) := by decide +kernel
theorem dX9_trades_56 : decode cX9_trades 56 = .ok (.iadd, 1) := by decide +kernel
theorem dX9_trades_57 : decode cX9_trades 57 = .ok (.iaload, 1) := by decide +kernel
theorem dX9_trades_58 : decode cX9_trades 58 = .ok (.iadd, 1) := by decide +kernel
theorem dX9_trades_59 : decode cX9_trades 59 = .ok (.iconst 2, 1) := by decide +kernel
theorem dX9_trades_60 : decode cX9_trades 60 = .ok (.idiv, 1) := by decide +kernel
theorem dX9_trades_61 : decode cX9_trades 61 = .ok (.istore 6, 2) := by decide +kernel
theorem dX9_trades_63 : decode cX9_trades 63 = .ok (.aload_n 0, 1) := by decide +kernel
theorem dX9_trades_64 : decode cX9_trades 64 = .ok (.getfield 9, 3) := by decide +kernel
theorem dX9_trades_67 : decode cX9_trades 67 = .ok (.bipush 6, 2) := by decide +kernel
theorem dX9_trades_69 : decode cX9_trades 69 = .ok (.iaload, 1) := by decide +kernel
theorem dX9_trades_70 : decode cX9_trades 70 = .ok (.iload 6, 2) := by decide +kernel
theorem dX9_trades_72 : decode cX9_trades 72 = .ok (.invokestatic 172, 3) := by decide +kernel
theorem dX9_trades_75 : decode cX9_trades 75 = .ok (.istore 7, 2) := by decide +kernel
theorem dX9_trades_77 : decode cX9_trades 77 = .ok (.aload_n 0, 1) := by decide +kernel
theorem dX9_trades_78 : decode cX9_trades 78 = .ok (.getfield 9, 3) := by decide +kernel
theorem dX9_trades_81 : decode cX9_trades 81 = .ok (.iload 4, 2) := by decide +kernel
theorem dX9_trades_83 : decode cX9_trades 83 = .ok (.invokestatic 67, 3) := by decide +kernel
theorem dX9_trades_86 : decode cX9_trades 86 = .ok (.dup2, 1) := by decide +kernel
theorem dX9_trades_87 : decode cX9_trades 87 = .ok (.iaload, 1) := by decide +kernel
theorem dX9_trades_88 : decode cX9_trades 88 = .ok (.iload 6, 2) := by decide +kernel
theorem dX9_trades_90 : decode cX9_trades 90 = .ok (.isub, 1) := by decide +kernel
theorem dX9_trades_91 : decode cX9_trades 91 = .ok (.iastore, 1) := by decide +kernel
theorem dX9_trades_92 : decode cX9_trades 92 = .ok (.aload_n 0, 1) := by decide +kernel
theorem dX9_trades_93 : decode cX9_trades 93 = .ok (.getfield 9, 3) := by decide +kernel
theorem dX9_trades_96 : decode cX9_trades 96 = .ok (.iload 5, 2) := by decide +kernel
theorem dX9_trades_98 : decode cX9_trades 98 = .ok (.invokestatic 67, 3) := by decide +kernel
theorem dX9_trades_101 : decode cX9_trades 101 = .ok (.dup2, 1) := by decide +kernel
theorem dX9_trades_102 : decode cX9_trades 102 = .ok (.iaload, 1) := by decide +kernel
theorem dX9_trades_103 : decode cX9_trades 103 = .ok (.iload 6, 2) := by decide +kernel
theorem dX9_trades_105 : decode cX9_trades 105 = .ok (.iload 7, 2) := by decide +kernel
theorem dX9_trades_107 : decode cX9_trades 107 = .ok (.isub, 1) := by decide +kernel
theorem dX9_trades_108 : decode cX9_trades 108 = .ok (.iadd, 1) := by decide +kernel
theorem dX9_trades_109 : decode cX9_trades 109 = .ok (.iastore, 1) := by decide +kernel
theorem dX9_trades_110 : decode cX9_trades 110 = .ok (.aload_n 0, 1) := by decide +kernel
theorem dX9_trades_111 : decode cX9_trades 111 = .ok (.getfield 9, 3) := by decide +kernel
theorem dX9_trades_114 : decode cX9_trades 114 = .ok (.bipush 10, 2) := by decide +kernel
theorem dX9_trades_116 : decode cX9_trades 116 = .ok (.dup2, 1) := by decide +kernel
theorem dX9_trades_117 : decode cX9_trades 117 = .ok (.iaload, 1) := by decide +kernel
theorem dX9_trades_118 : decode cX9_trades 118 = .ok (.iload 7, 2) := by decide +kernel
theorem dX9_trades_120 : decode cX9_trades 120 = .ok (.iadd, 1) := by decide +kernel
theorem dX9_trades_121 : decode cX9_trades 121 = .ok (.iastore, 1) := by decide +kernel
theorem dX9_trades_122 : decode cX9_trades 122 = .ok (.aload_n 0, 1) := by decide +kernel
theorem dX9_trades_123 : decode cX9_trades 123 = .ok (.getfield 9, 3) := by decide +kernel
theorem dX9_trades_126 : decode cX9_trades 126 = .ok (.iload_n 3, 1) := by decide +kernel
theorem dX9_trades_127 : decode cX9_trades 127 = .ok (.invokestatic 70, 3) := by decide +kernel
theorem dX9_trades_130 : decode cX9_trades 130 = .ok (.iload 4, 2) := by decide +kernel
theorem dX9_trades_132 : decode cX9_trades 132 = .ok (.iastore, 1) := by decide +kernel
theorem dX9_trades_133 : decode cX9_trades 133 = .ok (.aload_n 0, 1) := by decide +kernel
theorem dX9_trades_134 : decode cX9_trades 134 = .ok (.getfield 9, 3) := by decide +kernel
theorem dX9_trades_137 : decode cX9_trades 137 = .ok (.bipush 8, 2) := by decide +kernel
theorem dX9_trades_139 : decode cX9_trades 139 = .ok (.dup2, 1) := by decide +kernel
theorem dX9_trades_140 : decode cX9_trades 140 = .ok (.iaload, 1) := by decide +kernel
theorem dX9_trades_141 : decode cX9_trades 141 = .ok (.iconst 1, 1) := by decide +kernel
theorem dX9_trades_142 : decode cX9_trades 142 = .ok (.iadd, 1) := by decide +kernel
theorem dX9_trades_143 : decode cX9_trades 143 = .ok (.iastore, 1) := by decide +kernel
theorem dX9_trades_144 : decode cX9_trades 144 = .ok (.aload_n 0, 1) := by decide +kernel
theorem dX9_trades_145 : decode cX9_trades 145 = .ok (.getfield 9, 3) := by decide +kernel
theorem dX9_trades_148 : decode cX9_trades 148 = .ok (.bipush 9, 2) := by decide +kernel
theorem dX9_trades_150 : decode cX9_trades 150 = .ok (.dup2, 1) := by decide +kernel
theorem dX9_trades_151 : decode cX9_trades 151 = .ok (.iaload, 1) := by decide +kernel
theorem dX9_trades_152 : decode cX9_trades 152 = .ok (.iload 6, 2) := by decide +kernel
theorem dX9_trades_154 : decode cX9_trades 154 = .ok (.iadd, 1) := by decide +kernel
theorem dX9_trades_155 : decode cX9_trades 155 = .ok (.iastore, 1) := by decide +kernel
theorem dX9_trades_156 : decode cX9_trades 156 = .ok (.aload_n 0, 1) := by decide +kernel
theorem dX9_trades_157 : decode cX9_trades 157 = .ok (.iload 4, 2) := by decide +kernel
theorem dX9_trades_159 : decode cX9_trades 159 = .ok (.iload 5, 2) := by decide +kernel
theorem dX9_trades_161 : decode cX9_trades 161 = .ok (.iload_n 3, 1) := by decide +kernel
theorem dX9_trades_162 : decode cX9_trades 162 = .ok (.iload 6, 2) := by decide +kernel
theorem dX9_trades_164 : decode cX9_trades 164 = .ok (.invokevirtual 177, 3) := by decide +kernel
theorem dX9_trades_167 : decode cX9_trades 167 = .ok (.aload_n 0, 1) := by decide +kernel
theorem dX9_trades_168 : decode cX9_trades 168 = .ok (.iload_n 1, 1) := by decide +kernel
theorem dX9_trades_169 : decode cX9_trades 169 = .ok (.invokevirtual 156, 3) := by decide +kernel
theorem dX9_trades_172 : decode cX9_trades 172 = .ok (.aload_n 0, 1) := by decide +kernel
theorem dX9_trades_173 : decode cX9_trades 173 = .ok (.iload_n 2, 1) := by decide +kernel
theorem dX9_trades_174 : decode cX9_trades 174 = .ok (.invokevirtual 166, 3) := by decide +kernel
theorem dX9_trades_177 : decode cX9_trades 177 = .ok (.return_, 1) := by decide +kernel
theorem dX9_auctions_0 : decode cX9_auctions 0 = .ok (.iconst 0, 1) := by decide +kernel
theorem dX9_auctions_1 : decode cX9_auctions 1 = .ok (.istore_n 1, 1) := by decide +kernel
theorem dX9_auctions_2 : decode cX9_auctions 2 = .ok (.iconst 0, 1) := by decide +kernel
theorem dX9_auctions_3 : decode cX9_auctions 3 = .ok (.istore_n 2, 1) := by decide +kernel
theorem dX9_auctions_4 : decode cX9_auctions 4 = .ok (.iload_n 2, 1) := by decide +kernel
theorem dX9_auctions_5 : decode cX9_auctions 5 = .ok (.aload_n 0, 1) := by decide +kernel
theorem dX9_auctions_6 : decode cX9_auctions 6 = .ok (.getfield 9, 3) := by decide +kernel
theorem dX9_auctions_9 : decode cX9_auctions 9 = .ok (.iconst 2, 1) := by decide +kernel
theorem dX9_auctions_10 : decode cX9_auctions 10 = .ok (.iaload, 1) := by decide +kernel
theorem dX9_auctions_11 : decode cX9_auctions 11 = .ok (.if_icmp .ge 41, 3) := by decide +kernel
theorem dX9_auctions_14 : decode cX9_auctions 14 = .ok (.aload_n 0, 1) := by decide +kernel
theorem dX9_auctions_15 : decode cX9_auctions 15 = .ok (.iload_n 2, 1) := by decide +kernel
theorem dX9_auctions_16 : decode cX9_auctions 16 = .ok (.invokevirtual 135, 3) := by decide +kernel
theorem dX9_auctions_19 : decode cX9_auctions 19 = .ok (.istore_n 3, 1) := by decide +kernel
theorem dX9_auctions_20 : decode cX9_auctions 20 = .ok (.aload_n 0, 1) := by decide +kernel
theorem dX9_auctions_21 : decode cX9_auctions 21 = .ok (.iload_n 3, 1) := by decide +kernel
theorem dX9_auctions_22 : decode cX9_auctions 22 = .ok (.invokevirtual 180, 3) := by decide +kernel
theorem dX9_auctions_25 : decode cX9_auctions 25 = .ok (.istore 4, 2) := by decide +kernel
theorem dX9_auctions_27 : decode cX9_auctions 27 = .ok (.iload 4, 2) := by decide +kernel
theorem dX9_auctions_29 : decode cX9_auctions 29 = .ok (.iconst (-1), 1) := by decide +kernel
theorem dX9_auctions_30 : decode cX9_auctions 30 = .ok (.if_icmp .ne 9, 3) := by decide +kernel
theorem dX9_auctions_33 : decode cX9_auctions 33 = .ok (.iinc 2 1, 3) := by decide +kernel
theorem dX9_auctions_36 : decode cX9_auctions 36 = .ok (.goto 13, 3) := by decide +kernel
theorem dX9_auctions_39 : decode cX9_auctions 39 = .ok (.aload_n 0, 1) := by decide +kernel
theorem dX9_auctions_40 : decode cX9_auctions 40 = .ok (.iload_n 3, 1) := by decide +kernel
theorem dX9_auctions_41 : decode cX9_auctions 41 = .ok (.iload 4, 2) := by decide +kernel
theorem dX9_auctions_43 : decode cX9_auctions 43 = .ok (.invokevirtual 183, 3) := by decide +kernel
theorem dX9_auctions_46 : decode cX9_auctions 46 = .ok (.iinc 1 1, 3) := by decide +kernel
theorem dX9_auctions_49 : decode cX9_auctions 49 = .ok (.goto (-45), 3) := by decide +kernel
theorem dX9_auctions_52 : decode cX9_auctions 52 = .ok (.iload_n 1, 1) := by decide +kernel
theorem dX9_auctions_53 : decode cX9_auctions 53 = .ok (.ireturn, 1) := by decide +kernel
theorem dX9_ages_0 : decode cX9_ages 0 = .ok (.iconst 0, 1) := by decide +kernel
theorem dX9_ages_1 : decode cX9_ages 1 = .ok (.istore_n 1, 1) := by decide +kernel
theorem dX9_ages_2 : decode cX9_ages 2 = .ok (.iload_n 1, 1) := by decide +kernel
theorem dX9_ages_3 : decode cX9_ages 3 = .ok (.aload_n 0, 1) := by decide +kernel
theorem dX9_ages_4 : decode cX9_ages 4 = .ok (.getfield 9, 3) := by decide +kernel
theorem dX9_ages_7 : decode cX9_ages 7 = .ok (.iconst 2, 1) := by decide +kernel
theorem dX9_ages_8 : decode cX9_ages 8 = .ok (.iaload, 1) := by decide +kernel
theorem dX9_ages_9 : decode cX9_ages 9 = .ok (.if_icmp .ge 58, 3) := by decide +kernel
theorem dX9_ages_12 : decode cX9_ages 12 = .ok (.aload_n 0, 1) := by decide +kernel
theorem dX9_ages_13 : decode cX9_ages 13 = .ok (.getfield 9, 3) := by decide +kernel
theorem dX9_ages_16 : decode cX9_ages 16 = .ok (.iload_n 1, 1) := by decide +kernel
theorem dX9_ages_17 : decode cX9_ages 17 = .ok (.invokestatic 73, 3) := by decide +kernel
theorem dX9_ages_20 : decode cX9_ages 20 = .ok (.iconst 4, 1) := by decide +kernel
theorem dX9_ages_21 : decode cX9_ages 21 = .ok (.iadd, 1) := by decide +kernel
theorem dX9_ages_22 : decode cX9_ages 22 = .ok (.dup2, 1) := by decide +kernel
theorem dX9_ages_23 : decode cX9_ages 23 = .ok (.iaload, 1) := by decide +kernel
theorem dX9_ages_24 : decode cX9_ages 24 = .ok (.iconst 1, 1) := by decide +kernel
theorem dX9_ages_25 : decode cX9_ages 25 = .ok (.iadd, 1) := by decide +kernel
theorem dX9_ages_26 : decode cX9_ages 26 = .ok (.iastore, 1) := by decide +kernel
theorem dX9_ages_27 : decode cX9_ages 27 = .ok (.aload_n 0, 1) := by decide +kernel
theorem dX9_ages_28 : decode cX9_ages 28 = .ok (.getfield 9, 3) := by decide +kernel
theorem dX9_ages_31 : decode cX9_ages 31 = .ok (.iload_n 1, 1) := by decide +kernel
theorem dX9_ages_32 : decode cX9_ages 32 = .ok (.invokestatic 73, 3) := by decide +kernel
theorem dX9_ages_35 : decode cX9_ages 35 = .ok (.iconst 4, 1) := by decide +kernel
theorem dX9_ages_36 : decode cX9_ages 36 = .ok (.iadd, 1) := by decide +kernel
theorem dX9_ages_37 : decode cX9_ages 37 = .ok (.iaload, 1) := by decide +kernel
theorem dX9_ages_38 : decode cX9_ages 38 = .ok (.iconst 3, 1) := by decide +kernel
theorem dX9_ages_39 : decode cX9_ages 39 = .ok (.if_icmp .ne 22, 3) := by decide +kernel
theorem dX9_ages_42 : decode cX9_ages 42 = .ok (.aload_n 0, 1) := by decide +kernel
theorem dX9_ages_43 : decode cX9_ages 43 = .ok (.iload_n 1, 1) := by decide +kernel
theorem dX9_ages_44 : decode cX9_ages 44 = .ok (.invokevirtual 156, 3) := by decide +kernel
theorem dX9_ages_47 : decode cX9_ages 47 = .ok (.aload_n 0, 1) := by decide +kernel
theorem dX9_ages_48 : decode cX9_ages 48 = .ok (.getfield 9, 3) := by decide +kernel
theorem dX9_ages_51 : decode cX9_ages 51 = .ok (.bipush 11, 2) := by decide +kernel
theorem dX9_ages_53 : decode cX9_ages 53 = .ok (.dup2, 1) := by decide +kernel
theorem dX9_ages_54 : decode cX9_ages 54 = .ok (.iaload, 1) := by decide +kernel
theorem dX9_ages_55 : decode cX9_ages 55 = .ok (.iconst 1, 1) := by decide +kernel
theorem dX9_ages_56 : decode cX9_ages 56 = .ok (.iadd, 1) := by decide +kernel
theorem dX9_ages_57 : decode cX9_ages 57 = .ok (.iastore, 1) := by decide +kernel
theorem dX9_ages_58 : decode cX9_ages 58 = .ok (.goto (-56), 3) := by decide +kernel
theorem dX9_ages_61 : decode cX9_ages 61 = .ok (.iinc 1 1, 3) := by decide +kernel
theorem dX9_ages_64 : decode cX9_ages 64 = .ok (.goto (-62), 3) := by decide +kernel
theorem dX9_ages_67 : decode cX9_ages 67 = .ok (.iconst 0, 1) := by decide +kernel
theorem dX9_ages_68 : decode cX9_ages 68 = .ok (.istore_n 1, 1) := by decide +kernel
theorem dX9_ages_69 : decode cX9_ages 69 = .ok (.iload_n 1, 1) := by decide +kernel
theorem dX9_ages_70 : decode cX9_ages 70 = .ok (.aload_n 0, 1) := by decide +kernel
theorem dX9_ages_71 : decode cX9_ages 71 = .ok (.getfield 9, 3) := by decide +kernel
theorem dX9_ages_74 : decode cX9_ages 74 = .ok (.iconst 3, 1) := by decide +kernel
theorem dX9_ages_75 : decode cX9_ages 75 = .ok (.iaload, 1) := by decide +kernel
theorem dX9_ages_76 : decode cX9_ages 76 = .ok (.if_icmp .ge 58, 3) := by decide +kernel
theorem dX9_ages_79 : decode cX9_ages 79 = .ok (.aload_n 0, 1) := by decide +kernel
theorem dX9_ages_80 : decode cX9_ages 80 = .ok (.getfield 9, 3) := by decide +kernel
theorem dX9_ages_83 : decode cX9_ages 83 = .ok (.iload_n 1, 1) := by decide +kernel
theorem dX9_ages_84 : decode cX9_ages 84 = .ok (.invokestatic 82, 3) := by decide +kernel
theorem dX9_ages_87 : decode cX9_ages 87 = .ok (.iconst 3, 1) := by decide +kernel
theorem dX9_ages_88 : decode cX9_ages 88 = .ok (.iadd, 1) := by decide +kernel
theorem dX9_ages_89 : decode cX9_ages 89 = .ok (.dup2, 1) := by decide +kernel
theorem dX9_ages_90 : decode cX9_ages 90 = .ok (.iaload, 1) := by decide +kernel
theorem dX9_ages_91 : decode cX9_ages 91 = .ok (.iconst 1, 1) := by decide +kernel
theorem dX9_ages_92 : decode cX9_ages 92 = .ok (.iadd, 1) := by decide +kernel
theorem dX9_ages_93 : decode cX9_ages 93 = .ok (.iastore, 1) := by decide +kernel
theorem dX9_ages_94 : decode cX9_ages 94 = .ok (.aload_n 0, 1) := by decide +kernel
theorem dX9_ages_95 : decode cX9_ages 95 = .ok (.getfield 9, 3) := by decide +kernel
theorem dX9_ages_98 : decode cX9_ages 98 = .ok (.iload_n 1, 1) := by decide +kernel
theorem dX9_ages_99 : decode cX9_ages 99 = .ok (.invokestatic 82, 3) := by decide +kernel
theorem dX9_ages_102 : decode cX9_ages 102 = .ok (.iconst 3, 1) := by decide +kernel
theorem dX9_ages_103 : decode cX9_ages 103 = .ok (.iadd, 1) := by decide +kernel
theorem dX9_ages_104 : decode cX9_ages 104 = .ok (.iaload, 1) := by decide +kernel
theorem dX9_ages_105 : decode cX9_ages 105 = .ok (.iconst 3, 1) := by decide +kernel
theorem dX9_ages_106 : decode cX9_ages 106 = .ok (.if_icmp .ne 22, 3) := by decide +kernel
theorem dX9_ages_109 : decode cX9_ages 109 = .ok (.aload_n 0, 1) := by decide +kernel
theorem dX9_ages_110 : decode cX9_ages 110 = .ok (.iload_n 1, 1) := by decide +kernel
theorem dX9_ages_111 : decode cX9_ages 111 = .ok (.invokevirtual 166, 3) := by decide +kernel
theorem dX9_ages_114 : decode cX9_ages 114 = .ok (.aload_n 0, 1) := by decide +kernel
theorem dX9_ages_115 : decode cX9_ages 115 = .ok (.getfield 9, 3) := by decide +kernel
theorem dX9_ages_118 : decode cX9_ages 118 = .ok (.bipush 11, 2) := by decide +kernel
theorem dX9_ages_120 : decode cX9_ages 120 = .ok (.dup2, 1) := by decide +kernel
theorem dX9_ages_121 : decode cX9_ages 121 = .ok (.iaload, 1) := by decide +kernel
theorem dX9_ages_122 : decode cX9_ages 122 = .ok (.iconst 1, 1) := by decide +kernel
theorem dX9_ages_123 : decode cX9_ages 123 = .ok (.iadd, 1) := by decide +kernel
theorem dX9_ages_124 : decode cX9_ages 124 = .ok (.iastore, 1) := by decide +kernel
theorem dX9_ages_125 : decode cX9_ages 125 = .ok (.goto (-56), 3) := by decide +kernel
theorem dX9_ages_128 : decode cX9_ages 128 = .ok (.iinc 1 1, 3) := by decide +kernel
theorem dX9_ages_131 : decode cX9_ages 131 = .ok (.goto (-62), 3) := by decide +kernel
theorem dX9_ages_134 : decode cX9_ages 134 = .ok (.return_, 1) := by decide +kernel
theorem dX9_tideIt_0 : decode cX9_tideIt 0 = .ok (.aload_n 0, 1) := by decide +kernel
theorem dX9_tideIt_1 : decode cX9_tideIt 1 = .ok (.invokevirtual 187, 3) := by decide +kernel
theorem dX9_tideIt_4 : decode cX9_tideIt 4 = .ok (.istore_n 1, 1) := by decide +kernel
theorem dX9_tideIt_5 : decode cX9_tideIt 5 = .ok (.aload_n 0, 1) := by decide +kernel
theorem dX9_tideIt_6 : decode cX9_tideIt 6 = .ok (.invokevirtual 191, 3) := by decide +kernel
theorem dX9_tideIt_9 : decode cX9_tideIt 9 = .ok (.aload_n 0, 1) := by decide +kernel
theorem dX9_tideIt_10 : decode cX9_tideIt 10 = .ok (.getfield 9, 3) := by decide +kernel
theorem dX9_tideIt_13 : decode cX9_tideIt 13 = .ok (.bipush 7, 2) := by decide +kernel
theorem dX9_tideIt_15 : decode cX9_tideIt 15 = .ok (.dup2, 1) := by decide +kernel
theorem dX9_tideIt_16 : decode cX9_tideIt 16 = .ok (.iaload, 1) := by decide +kernel
theorem dX9_tideIt_17 : decode cX9_tideIt 17 = .ok (.iconst 1, 1) := by decide +kernel
theorem dX9_tideIt_18 : decode cX9_tideIt 18 = .ok (.iadd, 1) := by decide +kernel
theorem dX9_tideIt_19 : decode cX9_tideIt 19 = .ok (.iastore, 1) := by decide +kernel
theorem dX9_tideIt_20 : decode cX9_tideIt 20 = .ok (.iload_n 1, 1) := by decide +kernel
theorem dX9_tideIt_21 : decode cX9_tideIt 21 = .ok (.ireturn, 1) := by decide +kernel
theorem dX9_passTide_0 : decode cX9_passTide 0 = .ok (.aload_n 0, 1) := by decide +kernel
theorem dX9_passTide_1 : decode cX9_passTide 1 = .ok (.invokevirtual 110, 3) := by decide +kernel
theorem dX9_passTide_4 : decode cX9_passTide 4 = .ok (.aload_n 0, 1) := by decide +kernel
theorem dX9_passTide_5 : decode cX9_passTide 5 = .ok (.aload_n 0, 1) := by decide +kernel
theorem dX9_passTide_6 : decode cX9_passTide 6 = .ok (.invokevirtual 194, 3) := by decide +kernel
theorem dX9_passTide_9 : decode cX9_passTide 9 = .ok (.invokevirtual 117, 3) := by decide +kernel
theorem dX9_passTide_12 : decode cX9_passTide 12 = .ok (.ireturn, 1) := by decide +kernel
theorem dX9_wouldTrade_0 : decode cX9_wouldTrade 0 = .ok (.aload_n 0, 1) := by decide +kernel
theorem dX9_wouldTrade_1 : decode cX9_wouldTrade 1 = .ok (.iconst 0, 1) := by decide +kernel
theorem dX9_wouldTrade_2 : decode cX9_wouldTrade 2 = .ok (.putfield 38, 3) := by decide +kernel
theorem dX9_wouldTrade_5 : decode cX9_wouldTrade 5 = .ok (.iconst 0, 1) := by decide +kernel
theorem dX9_wouldTrade_6 : decode cX9_wouldTrade 6 = .ok (.istore_n 1, 1) := by decide +kernel
theorem dX9_wouldTrade_7 : decode cX9_wouldTrade 7 = .ok (.iload_n 1, 1) := by decide +kernel
theorem dX9_wouldTrade_8 : decode cX9_wouldTrade 8 = .ok (.sipush 212, 3) := by decide +kernel
theorem dX9_wouldTrade_11 : decode cX9_wouldTrade 11 = .ok (.if_icmp .ge 21, 3) := by decide +kernel
theorem dX9_wouldTrade_14 : decode cX9_wouldTrade 14 = .ok (.aload_n 0, 1) := by decide +kernel
theorem dX9_wouldTrade_15 : decode cX9_wouldTrade 15 = .ok (.getfield 16, 3) := by decide +kernel
theorem dX9_wouldTrade_18 : decode cX9_wouldTrade 18 = .ok (.iload_n 1, 1) := by decide +kernel
theorem dX9_wouldTrade_19 : decode cX9_wouldTrade 19 = .ok (.aload_n 0, 1) := by decide +kernel
theorem dX9_wouldTrade_20 : decode cX9_wouldTrade 20 = .ok (.getfield 9, 3) := by decide +kernel
theorem dX9_wouldTrade_23 : decode cX9_wouldTrade 23 = .ok (.iload_n 1, 1) := by decide +kernel
theorem dX9_wouldTrade_24 : decode cX9_wouldTrade 24 = .ok (.iaload, 1) := by decide +kernel
theorem dX9_wouldTrade_25 : decode cX9_wouldTrade 25 = .ok (.iastore, 1) := by decide +kernel
theorem dX9_wouldTrade_26 : decode cX9_wouldTrade 26 = .ok (.iinc 1 1, 3) := by decide +kernel
theorem dX9_wouldTrade_29 : decode cX9_wouldTrade 29 = .ok (.goto (-22), 3) := by decide +kernel
theorem dX9_wouldTrade_32 : decode cX9_wouldTrade 32 = .ok (.aload_n 0, 1) := by decide +kernel
theorem dX9_wouldTrade_33 : decode cX9_wouldTrade 33 = .ok (.invokevirtual 187, 3) := by decide +kernel
theorem dX9_wouldTrade_36 : decode cX9_wouldTrade 36 = .ok (.istore_n 1, 1) := by decide +kernel
theorem dX9_wouldTrade_37 : decode cX9_wouldTrade 37 = .ok (.iconst 0, 1) := by decide +kernel
theorem dX9_wouldTrade_38 : decode cX9_wouldTrade 38 = .ok (.istore_n 2, 1) := by decide +kernel
theorem dX9_wouldTrade_39 : decode cX9_wouldTrade 39 = .ok (.iload_n 2, 1) := by decide +kernel
theorem dX9_wouldTrade_40 : decode cX9_wouldTrade 40 = .ok (.sipush 212, 3) := by decide +kernel
theorem dX9_wouldTrade_43 : decode cX9_wouldTrade 43 = .ok (.if_icmp .ge 21, 3) := by decide +kernel
theorem dX9_wouldTrade_46 : decode cX9_wouldTrade 46 = .ok (.aload_n 0, 1) := by decide +kernel
theorem dX9_wouldTrade_47 : decode cX9_wouldTrade 47 = .ok (.getfield 9, 3) := by decide +kernel
theorem dX9_wouldTrade_50 : decode cX9_wouldTrade 50 = .ok (.iload_n 2, 1) := by decide +kernel
theorem dX9_wouldTrade_51 : decode cX9_wouldTrade 51 = .ok (.aload_n 0, 1) := by decide +kernel
theorem dX9_wouldTrade_52 : decode cX9_wouldTrade 52 = .ok (.getfield 16, 3) := by decide +kernel
theorem dX9_wouldTrade_55 : decode cX9_wouldTrade 55 = .ok (.iload_n 2, 1) := by decide +kernel
theorem dX9_wouldTrade_56 : decode cX9_wouldTrade 56 = .ok (.iaload, 1) := by decide +kernel
theorem dX9_wouldTrade_57 : decode cX9_wouldTrade 57 = .ok (.iastore, 1) := by decide +kernel
theorem dX9_wouldTrade_58 : decode cX9_wouldTrade 58 = .ok (.iinc 2 1, 3) := by decide +kernel
theorem dX9_wouldTrade_61 : decode cX9_wouldTrade 61 = .ok (.goto (-22), 3) := by decide +kernel
theorem dX9_wouldTrade_64 : decode cX9_wouldTrade 64 = .ok (.iload_n 1, 1) := by decide +kernel
theorem dX9_wouldTrade_65 : decode cX9_wouldTrade 65 = .ok (.ireturn, 1) := by decide +kernel
theorem dX9_feeIt_0 : decode cX9_feeIt 0 = .ok (.iload_n 1, 1) := by decide +kernel
theorem dX9_feeIt_1 : decode cX9_feeIt 1 = .ok (.i2l, 1) := by decide +kernel
theorem dX9_feeIt_2 : decode cX9_feeIt 2 = .ok (.lconst 0, 1) := by decide +kernel
theorem dX9_feeIt_3 : decode cX9_feeIt 3 = .ok (.ldc2_w 124, 3) := by decide +kernel
theorem dX9_feeIt_6 : decode cX9_feeIt 6 = .ok (.invokestatic 63, 3) := by decide +kernel
theorem dX9_feeIt_9 : decode cX9_feeIt 9 = .ok (.ifCond .ne 9, 3) := by decide +kernel
theorem dX9_feeIt_12 : decode cX9_feeIt 12 = .ok (.aload_n 0, 1) := by decide +kernel
theorem dX9_feeIt_13 : decode cX9_feeIt 13 = .ok (.iconst 1, 1) := by decide +kernel
theorem dX9_feeIt_14 : decode cX9_feeIt 14 = .ok (.invokevirtual 47, 3) := by decide +kernel
theorem dX9_feeIt_17 : decode cX9_feeIt 17 = .ok (.ireturn, 1) := by decide +kernel
theorem dX9_feeIt_18 : decode cX9_feeIt 18 = .ok (.aload_n 0, 1) := by decide +kernel
theorem dX9_feeIt_19 : decode cX9_feeIt 19 = .ok (.getfield 9, 3) := by decide +kernel
theorem dX9_feeIt_22 : decode cX9_feeIt 22 = .ok (.bipush 6, 2) := by decide +kernel
theorem dX9_feeIt_24 : decode cX9_feeIt 24 = .ok (.iaload, 1) := by decide +kernel
theorem dX9_feeIt_25 : decode cX9_feeIt 25 = .ok (.istore_n 2, 1) := by decide +kernel
theorem dX9_feeIt_26 : decode cX9_feeIt 26 = .ok (.aload_n 0, 1) := by decide +kernel
theorem dX9_feeIt_27 : decode cX9_feeIt 27 = .ok (.getfield 9, 3) := by decide +kernel
theorem dX9_feeIt_30 : decode cX9_feeIt 30 = .ok (.bipush 6, 2) := by decide +kernel
theorem dX9_feeIt_32 : decode cX9_feeIt 32 = .ok (.iload_n 1, 1) := by decide +kernel
theorem dX9_feeIt_33 : decode cX9_feeIt 33 = .ok (.iastore, 1) := by decide +kernel
theorem dX9_feeIt_34 : decode cX9_feeIt 34 = .ok (.iload_n 2, 1) := by decide +kernel
theorem dX9_feeIt_35 : decode cX9_feeIt 35 = .ok (.ireturn, 1) := by decide +kernel
theorem dX9_setFee_0 : decode cX9_setFee 0 = .ok (.aload_n 0, 1) := by decide +kernel
theorem dX9_setFee_1 : decode cX9_setFee 1 = .ok (.invokevirtual 110, 3) := by decide +kernel
theorem dX9_setFee_4 : decode cX9_setFee 4 = .ok (.aload_n 0, 1) := by decide +kernel
theorem dX9_setFee_5 : decode cX9_setFee 5 = .ok (.aload_n 0, 1) := by decide +kernel
theorem dX9_setFee_6 : decode cX9_setFee 6 = .ok (.iload_n 1, 1) := by decide +kernel
theorem dX9_setFee_7 : decode cX9_setFee 7 = .ok (.invokevirtual 197, 3) := by decide +kernel
theorem dX9_setFee_10 : decode cX9_setFee 10 = .ok (.invokevirtual 117, 3) := by decide +kernel
theorem dX9_setFee_13 : decode cX9_setFee 13 = .ok (.ireturn, 1) := by decide +kernel
theorem dX9_total_0 : decode cX9_total 0 = .ok (.aload_n 0, 1) := by decide +kernel
theorem dX9_total_1 : decode cX9_total 1 = .ok (.iconst 0, 1) := by decide +kernel
theorem dX9_total_2 : decode cX9_total 2 = .ok (.putfield 38, 3) := by decide +kernel
theorem dX9_total_5 : decode cX9_total 5 = .ok (.aload_n 0, 1) := by decide +kernel
theorem dX9_total_6 : decode cX9_total 6 = .ok (.getfield 9, 3) := by decide +kernel
theorem dX9_total_9 : decode cX9_total 9 = .ok (.iload_n 1, 1) := by decide +kernel
theorem dX9_total_10 : decode cX9_total 10 = .ok (.iaload, 1) := by decide +kernel
theorem dX9_total_11 : decode cX9_total 11 = .ok (.ireturn, 1) := by decide +kernel
theorem dX9_shipCount_0 : decode cX9_shipCount 0 = .ok (.aload_n 0, 1) := by decide +kernel
theorem dX9_shipCount_1 : decode cX9_shipCount 1 = .ok (.iconst 0, 1) := by decide +kernel
theorem dX9_shipCount_2 : decode cX9_shipCount 2 = .ok (.invokevirtual 200, 3) := by decide +kernel
theorem dX9_shipCount_5 : decode cX9_shipCount 5 = .ok (.ireturn, 1) := by decide +kernel
theorem dX9_coinsOf_0 : decode cX9_coinsOf 0 = .ok (.aload_n 0, 1) := by decide +kernel
theorem dX9_coinsOf_1 : decode cX9_coinsOf 1 = .ok (.iconst 0, 1) := by decide +kernel
theorem dX9_coinsOf_2 : decode cX9_coinsOf 2 = .ok (.putfield 38, 3) := by decide +kernel
theorem dX9_coinsOf_5 : decode cX9_coinsOf 5 = .ok (.aload_n 0, 1) := by decide +kernel
theorem dX9_coinsOf_6 : decode cX9_coinsOf 6 = .ok (.iload_n 1, 1) := by decide +kernel
theorem dX9_coinsOf_7 : decode cX9_coinsOf 7 = .ok (.invokevirtual 120, 3) := by decide +kernel
theorem dX9_coinsOf_10 : decode cX9_coinsOf 10 = .ok (.ifCond .eq 15, 3) := by decide +kernel
theorem dX9_coinsOf_13 : decode cX9_coinsOf 13 = .ok (.aload_n 0, 1) := by decide +kernel
theorem dX9_coinsOf_14 : decode cX9_coinsOf 14 = .ok (.getfield 9, 3) := by decide +kernel
theorem dX9_coinsOf_17 : decode cX9_coinsOf 17 = .ok (.iload_n 1, 1) := by decide +kernel
theorem dX9_coinsOf_18 : decode cX9_coinsOf 18 = .ok (.invokestatic 67, 3) := by decide +kernel
theorem dX9_coinsOf_21 : decode cX9_coinsOf 21 = .ok (.iaload, 1) := by decide +kernel
theorem dX9_coinsOf_22 : decode cX9_coinsOf 22 = .ok (.goto 8, 3) := by decide +kernel
theorem dX9_coinsOf_25 : decode cX9_coinsOf 25 = .ok (.aload_n 0, 1) := by decide +kernel
theorem dX9_coinsOf_26 : decode cX9_coinsOf 26 = .ok (.iconst 1, 1) := by decide +kernel
theorem dX9_coinsOf_27 : decode cX9_coinsOf 27 = .ok (.invokevirtual 47, 3) := by decide +kernel
theorem dX9_coinsOf_30 : decode cX9_coinsOf 30 = .ok (.ireturn, 1) := by decide +kernel
theorem dX9_reservedCoins_0 : decode cX9_reservedCoins 0 = .ok (.aload_n 0, 1) := by decide +kernel
theorem dX9_reservedCoins_1 : decode cX9_reservedCoins 1 = .ok (.iconst 0, 1) := by decide +kernel
theorem dX9_reservedCoins_2 : decode cX9_reservedCoins 2 = .ok (.putfield 38, 3) := by decide +kernel
theorem dX9_reservedCoins_5 : decode cX9_reservedCoins 5 = .ok (.aload_n 0, 1) := by decide +kernel
theorem dX9_reservedCoins_6 : decode cX9_reservedCoins 6 = .ok (.iload_n 1, 1) := by decide +kernel
theorem dX9_reservedCoins_7 : decode cX9_reservedCoins 7 = .ok (.invokevirtual 120, 3) := by decide +kernel
theorem dX9_reservedCoins_10 : decode cX9_reservedCoins 10 = .ok (.ifCond .eq 11, 3) := by decide +kernel
theorem dX9_reservedCoins_13 : decode cX9_reservedCoins 13 = .ok (.aload_n 0, 1) := by decide +kernel
theorem dX9_reservedCoins_14 : decode cX9_reservedCoins 14 = .ok (.iload_n 1, 1) := by decide +kernel
theorem dX9_reservedCoins_15 : decode cX9_reservedCoins 15 = .ok (.invokevirtual 138, 3) := by decide +kernel
theorem dX9_reservedCoins_18 : decode cX9_reservedCoins 18 = .ok (.goto 8, 3) := by decide +kernel
theorem dX9_reservedCoins_21 : decode cX9_reservedCoins 21 = .ok (.aload_n 0, 1) := by decide +kernel
theorem dX9_reservedCoins_22 : decode cX9_reservedCoins 22 = .ok (.iconst 1, 1) := by decide +kernel
theorem dX9_reservedCoins_23 : decode cX9_reservedCoins 23 = .ok (.invokevirtual 47, 3) := by decide +kernel
theorem dX9_reservedCoins_26 : decode cX9_reservedCoins 26 = .ok (.ireturn, 1) := by decide +kernel
theorem dX9_capacityOf_0 : decode cX9_capacityOf 0 = .ok (.aload_n 0, 1) := by decide +kernel
theorem dX9_capacityOf_1 : decode cX9_capacityOf 1 = .ok (.iconst 0, 1) := by decide +kernel
theorem dX9_capacityOf_2 : decode cX9_capacityOf 2 = .ok (.putfield 38, 3) := by decide +kernel
theorem dX9_capacityOf_5 : decode cX9_capacityOf 5 = .ok (.aload_n 0, 1) := by decide +kernel
theorem dX9_capacityOf_6 : decode cX9_capacityOf 6 = .ok (.iload_n 1, 1) := by decide +kernel
theorem dX9_capacityOf_7 : decode cX9_capacityOf 7 = .ok (.invokevirtual 120, 3) := by decide +kernel
theorem dX9_capacityOf_10 : decode cX9_capacityOf 10 = .ok (.ifCond .eq 11, 3) := by decide +kernel
theorem dX9_capacityOf_13 : decode cX9_capacityOf 13 = .ok (.aload_n 0, 1) := by decide +kernel
theorem dX9_capacityOf_14 : decode cX9_capacityOf 14 = .ok (.iload_n 1, 1) := by decide +kernel
theorem dX9_capacityOf_15 : decode cX9_capacityOf 15 = .ok (.invokevirtual 76, 3) := by decide +kernel
theorem dX9_capacityOf_18 : decode cX9_capacityOf 18 = .ok (.goto 8, 3) := by decide +kernel
theorem dX9_capacityOf_21 : decode cX9_capacityOf 21 = .ok (.aload_n 0, 1) := by decide +kernel
theorem dX9_capacityOf_22 : decode cX9_capacityOf 22 = .ok (.iconst 1, 1) := by decide +kernel
theorem dX9_capacityOf_23 : decode cX9_capacityOf 23 = .ok (.invokevirtual 47, 3) := by decide +kernel
theorem dX9_capacityOf_26 : decode cX9_capacityOf 26 = .ok (.ireturn, 1) := by decide +kernel
theorem dX9_loadOf_0 : decode cX9_loadOf 0 = .ok (.aload_n 0, 1) := by decide +kernel
theorem dX9_loadOf_1 : decode cX9_loadOf 1 = .ok (.iconst 0, 1) := by decide +kernel
theorem dX9_loadOf_2 : decode cX9_loadOf 2 = .ok (.putfield 38, 3) := by decide +kernel
theorem dX9_loadOf_5 : decode cX9_loadOf 5 = .ok (.aload_n 0, 1) := by decide +kernel
theorem dX9_loadOf_6 : decode cX9_loadOf 6 = .ok (.iload_n 1, 1) := by decide +kernel
theorem dX9_loadOf_7 : decode cX9_loadOf 7 = .ok (.invokevirtual 120, 3) := by decide +kernel
theorem dX9_loadOf_10 : decode cX9_loadOf 10 = .ok (.ifCond .eq 11, 3) := by decide +kernel
theorem dX9_loadOf_13 : decode cX9_loadOf 13 = .ok (.aload_n 0, 1) := by decide +kernel
theorem dX9_loadOf_14 : decode cX9_loadOf 14 = .ok (.iload_n 1, 1) := by decide +kernel
theorem dX9_loadOf_15 : decode cX9_loadOf 15 = .ok (.invokevirtual 79, 3) := by decide +kernel
theorem dX9_loadOf_18 : decode cX9_loadOf 18 = .ok (.goto 8, 3) := by decide +kernel
theorem dX9_loadOf_21 : decode cX9_loadOf 21 = .ok (.aload_n 0, 1) := by decide +kernel
theorem dX9_loadOf_22 : decode cX9_loadOf 22 = .ok (.iconst 1, 1) := by decide +kernel
theorem dX9_loadOf_23 : decode cX9_loadOf 23 = .ok (.invokevirtual 47, 3) := by decide +kernel
theorem dX9_loadOf_26 : decode cX9_loadOf 26 = .ok (.ireturn, 1) := by decide +kernel
theorem dX9_freePlaces_0 : decode cX9_freePlaces 0 = .ok (.aload_n 0, 1) := by decide +kernel
theorem dX9_freePlaces_1 : decode cX9_freePlaces 1 = .ok (.iconst 0, 1) := by decide +kernel
theorem dX9_freePlaces_2 : decode cX9_freePlaces 2 = .ok (.putfield 38, 3) := by decide +kernel
theorem dX9_freePlaces_5 : decode cX9_freePlaces 5 = .ok (.aload_n 0, 1) := by decide +kernel
theorem dX9_freePlaces_6 : decode cX9_freePlaces 6 = .ok (.iload_n 1, 1) := by decide +kernel
theorem dX9_freePlaces_7 : decode cX9_freePlaces 7 = .ok (.invokevirtual 120, 3) := by decide +kernel
theorem dX9_freePlaces_10 : decode cX9_freePlaces 10 = .ok (.ifCond .eq 11, 3) := by decide +kernel
theorem dX9_freePlaces_13 : decode cX9_freePlaces 13 = .ok (.aload_n 0, 1) := by decide +kernel
theorem dX9_freePlaces_14 : decode cX9_freePlaces 14 = .ok (.iload_n 1, 1) := by decide +kernel
theorem dX9_freePlaces_15 : decode cX9_freePlaces 15 = .ok (.invokevirtual 126, 3) := by decide +kernel
theorem dX9_freePlaces_18 : decode cX9_freePlaces 18 = .ok (.goto 8, 3) := by decide +kernel
theorem dX9_freePlaces_21 : decode cX9_freePlaces 21 = .ok (.aload_n 0, 1) := by decide +kernel
theorem dX9_freePlaces_22 : decode cX9_freePlaces 22 = .ok (.iconst 1, 1) := by decide +kernel
theorem dX9_freePlaces_23 : decode cX9_freePlaces 23 = .ok (.invokevirtual 47, 3) := by decide +kernel
theorem dX9_freePlaces_26 : decode cX9_freePlaces 26 = .ok (.ireturn, 1) := by decide +kernel
theorem dX9_barnacleRanked_0 : decode cX9_barnacleRanked 0 = .ok (.iconst 0, 1) := by decide +kernel
theorem dX9_barnacleRanked_1 : decode cX9_barnacleRanked 1 = .ok (.istore_n 3, 1) := by decide +kernel
theorem dX9_barnacleRanked_2 : decode cX9_barnacleRanked 2 = .ok (.iload_n 3, 1) := by decide +kernel
theorem dX9_barnacleRanked_3 : decode cX9_barnacleRanked 3 = .ok (.aload_n 0, 1) := by decide +kernel
theorem dX9_barnacleRanked_4 : decode cX9_barnacleRanked 4 = .ok (.getfield 9, 3) := by decide +kernel
theorem dX9_barnacleRanked_7 : decode cX9_barnacleRanked 7 = .ok (.iconst 1, 1) := by decide +kernel
theorem dX9_barnacleRanked_8 : decode cX9_barnacleRanked 8 = .ok (.iaload, 1) := by decide +kernel
theorem dX9_barnacleRanked_9 : decode cX9_barnacleRanked 9 = .ok (.if_icmp .ge 107, 3) := by decide +kernel
theorem dX9_barnacleRanked_12 : decode cX9_barnacleRanked 12 = .ok (.iconst 0, 1) := by decide +kernel
theorem dX9_barnacleRanked_13 : decode cX9_barnacleRanked 13 = .ok (.istore 4, 2) := by decide +kernel
theorem dX9_barnacleRanked_15 : decode cX9_barnacleRanked 15 = .ok (.iconst 0, 1) := by decide +kernel
theorem dX9_barnacleRanked_16 : decode cX9_barnacleRanked 16 = .ok (.istore 5, 2) := by decide +kernel
theorem dX9_barnacleRanked_18 : decode cX9_barnacleRanked 18 = .ok (.iload 5, 2) := by decide +kernel
theorem dX9_barnacleRanked_20 : decode cX9_barnacleRanked 20 = .ok (.aload_n 0, 1) := by decide +kernel
theorem dX9_barnacleRanked_21 : decode cX9_barnacleRanked 21 = .ok (.getfield 9, 3) := by decide +kernel
theorem dX9_barnacleRanked_24 : decode cX9_barnacleRanked 24 = .ok (.iconst 1, 1) := by decide +kernel
theorem dX9_barnacleRanked_25 : decode cX9_barnacleRanked 25 = .ok (.iaload, 1) := by decide +kernel
theorem dX9_barnacleRanked_26 : decode cX9_barnacleRanked 26 = .ok (.if_icmp .ge 63, 3) := by decide +kernel
theorem dX9_barnacleRanked_29 : decode cX9_barnacleRanked 29 = .ok (.aload_n 0, 1) := by decide +kernel
theorem dX9_barnacleRanked_30 : decode cX9_barnacleRanked 30 = .ok (.iload 5, 2) := by decide +kernel
theorem dX9_barnacleRanked_32 : decode cX9_barnacleRanked 32 = .ok (.invokevirtual 85, 3) := by decide +kernel
theorem dX9_barnacleRanked_35 : decode cX9_barnacleRanked 35 = .ok (.aload_n 0, 1) := by decide +kernel
theorem dX9_barnacleRanked_36 : decode cX9_barnacleRanked 36 = .ok (.iload_n 3, 1) := by decide +kernel
theorem dX9_barnacleRanked_37 : decode cX9_barnacleRanked 37 = .ok (.invokevirtual 85, 3) := by decide +kernel
theorem dX9_barnacleRanked_40 : decode cX9_barnacleRanked 40 = .ok (.isub, 1) := by decide +kernel
theorem dX9_barnacleRanked_41 : decode cX9_barnacleRanked 41 = .ok (.istore 6, 2) := by decide +kernel
theorem dX9_barnacleRanked_43 : decode cX9_barnacleRanked 43 = .ok (.iload 4, 2) := by decide +kernel
theorem dX9_barnacleRanked_45 : decode cX9_barnacleRanked 45 = .ok (.aload_n 0, 1) := by decide +kernel
theorem dX9_barnacleRanked_46 : decode cX9_barnacleRanked 46 = .ok (.getfield 9, 3) := by decide +kernel
theorem dX9_barnacleRanked_49 : decode cX9_barnacleRanked 49 = .ok (.iload 5, 2) := by decide +kernel
theorem dX9_barnacleRanked_51 : decode cX9_barnacleRanked 51 = .ok (.invokestatic 70, 3) := by decide +kernel
theorem dX9_barnacleRanked_54 : decode cX9_barnacleRanked 54 = .ok (.iaload, 1) := by decide +kernel
theorem dX9_barnacleRanked_55 : decode cX9_barnacleRanked 55 = .ok (.iload_n 1, 1) := by decide +kernel
theorem dX9_barnacleRanked_56 : decode cX9_barnacleRanked 56 = .ok (.if_icmp .ne 23, 3) := by decide +kernel
theorem dX9_barnacleRanked_59 : decode cX9_barnacleRanked 59 = .ok (.iload 6, 2) := by decide +kernel
theorem dX9_barnacleRanked_61 : decode cX9_barnacleRanked 61 = .ok (.ifCond .gt 14, 3) := by decide +kernel
theorem dX9_barnacleRanked_64 : decode cX9_barnacleRanked 64 = .ok (.iload 6, 2) := by decide +kernel
theorem dX9_barnacleRanked_66 : decode cX9_barnacleRanked 66 = .ok (.ifCond .ne 13, 3) := by decide +kernel
theorem dX9_barnacleRanked_69 : decode cX9_barnacleRanked 69 = .ok (.iload 5, 2) := by decide +kernel
theorem dX9_barnacleRanked_71 : decode cX9_barnacleRanked 71 = .ok (.iload_n 3, 1) := by decide +kernel
theorem dX9_barnacleRanked_72 : decode cX9_barnacleRanked 72 = .ok (.if_icmp .ge 7, 3) := by decide +kernel
theorem dX9_barnacleRanked_75 : decode cX9_barnacleRanked 75 = .ok (.iconst 1, 1) := by decide +kernel
theorem dX9_barnacleRanked_76 : decode cX9_barnacleRanked 76 = .ok (.goto 4, 3) := by decide +kernel
theorem dX9_barnacleRanked_79 : decode cX9_barnacleRanked 79 = .ok (.iconst 0, 1) := by decide +kernel
theorem dX9_barnacleRanked_80 : decode cX9_barnacleRanked 80 = .ok (.iadd, 1) := by decide +kernel
theorem dX9_barnacleRanked_81 : decode cX9_barnacleRanked 81 = .ok (.istore 4, 2) := by decide +kernel
theorem dX9_barnacleRanked_83 : decode cX9_barnacleRanked 83 = .ok (.iinc 5 1, 3) := by decide +kernel
theorem dX9_barnacleRanked_86 : decode cX9_barnacleRanked 86 = .ok (.goto (-68), 3) := by decide +kernel
theorem dX9_barnacleRanked_89 : decode cX9_barnacleRanked 89 = .ok (.aload_n 0, 1) := by decide +kernel
theorem dX9_barnacleRanked_90 : decode cX9_barnacleRanked 90 = .ok (.getfield 9, 3) := by decide +kernel
theorem dX9_barnacleRanked_93 : decode cX9_barnacleRanked 93 = .ok (.iload_n 3, 1) := by decide +kernel
theorem dX9_barnacleRanked_94 : decode cX9_barnacleRanked 94 = .ok (.invokestatic 70, 3) := by decide +kernel
theorem dX9_barnacleRanked_97 : decode cX9_barnacleRanked 97 = .ok (.iaload, 1) := by decide +kernel
theorem dX9_barnacleRanked_98 : decode cX9_barnacleRanked 98 = .ok (.iload_n 1, 1) := by decide +kernel
theorem dX9_barnacleRanked_99 : decode cX9_barnacleRanked 99 = .ok (.if_icmp .ne 11, 3) := by decide +kernel
theorem dX9_barnacleRanked_102 : decode cX9_barnacleRanked 102 = .ok (.iload 4, 2) := by decide +kernel
theorem dX9_barnacleRanked_104 : decode cX9_barnacleRanked 104 = .ok (.iload_n 2, 1) := by decide +kernel
theorem dX9_barnacleRanked_105 : decode cX9_barnacleRanked 105 = .ok (.if_icmp .ne 5, 3) := by decide +kernel
theorem dX9_barnacleRanked_108 : decode cX9_barnacleRanked 108 = .ok (.iload_n 3, 1) := by decide +kernel
theorem dX9_barnacleRanked_109 : decode cX9_barnacleRanked 109 = .ok (.ireturn, 1) := by decide +kernel
theorem dX9_barnacleRanked_110 : decode cX9_barnacleRanked 110 = .ok (.iinc 3 1, 3) := by decide +kernel
theorem dX9_barnacleRanked_113 : decode cX9_barnacleRanked 113 = .ok (.goto (-111), 3) := by decide +kernel
theorem dX9_barnacleRanked_116 : decode cX9_barnacleRanked 116 = .ok (.iconst (-1), 1) := by decide +kernel
theorem dX9_barnacleRanked_117 : decode cX9_barnacleRanked 117 = .ok (.ireturn, 1) := by decide +kernel
theorem dX9_barnacleAt_0 : decode cX9_barnacleAt 0 = .ok (.aload_n 0, 1) := by decide +kernel
theorem dX9_barnacleAt_1 : decode cX9_barnacleAt 1 = .ok (.iconst 0, 1) := by decide +kernel
theorem dX9_barnacleAt_2 : decode cX9_barnacleAt 2 = .ok (.putfield 38, 3) := by decide +kernel
theorem dX9_barnacleAt_5 : decode cX9_barnacleAt 5 = .ok (.aload_n 0, 1) := by decide +kernel
theorem dX9_barnacleAt_6 : decode cX9_barnacleAt 6 = .ok (.iload_n 1, 1) := by decide +kernel
theorem dX9_barnacleAt_7 : decode cX9_barnacleAt 7 = .ok (.invokevirtual 120, 3) := by decide +kernel
theorem dX9_barnacleAt_10 : decode cX9_barnacleAt 10 = .ok (.ifCond .ne 9, 3) := by decide +kernel
theorem dX9_barnacleAt_13 : decode cX9_barnacleAt 13 = .ok (.aload_n 0, 1) := by decide +kernel
theorem dX9_barnacleAt_14 : decode cX9_barnacleAt 14 = .ok (.iconst 1, 1) := by decide +kernel
theorem dX9_barnacleAt_15 : decode cX9_barnacleAt 15 = .ok (.invokevirtual 47, 3) := by decide +kernel
theorem dX9_barnacleAt_18 : decode cX9_barnacleAt 18 = .ok (.ireturn, 1) := by decide +kernel
theorem dX9_barnacleAt_19 : decode cX9_barnacleAt 19 = .ok (.aload_n 0, 1) := by decide +kernel
theorem dX9_barnacleAt_20 : decode cX9_barnacleAt 20 = .ok (.iload_n 1, 1) := by decide +kernel
theorem dX9_barnacleAt_21 : decode cX9_barnacleAt 21 = .ok (.iload_n 2, 1) := by decide +kernel
theorem dX9_barnacleAt_22 : decode cX9_barnacleAt 22 = .ok (.invokevirtual 203, 3) := by decide +kernel
theorem dX9_barnacleAt_25 : decode cX9_barnacleAt 25 = .ok (.istore_n 3, 1) := by decide +kernel
theorem dX9_barnacleAt_26 : decode cX9_barnacleAt 26 = .ok (.iload_n 3, 1) := by decide +kernel
theorem dX9_barnacleAt_27 : decode cX9_barnacleAt 27 = .ok (.iconst (-1), 1) := by decide +kernel
theorem dX9_barnacleAt_28 : decode cX9_barnacleAt 28 = .ok (.if_icmp .ne 11, 3) := by decide +kernel
theorem dX9_barnacleAt_31 : decode cX9_barnacleAt 31 = .ok (.aload_n 0, 1) := by decide +kernel
theorem dX9_barnacleAt_32 : decode cX9_barnacleAt 32 = .ok (.iconst 2, 1) := by decide +kernel
theorem dX9_barnacleAt_33 : decode cX9_barnacleAt 33 = .ok (.invokevirtual 47, 3) := by decide +kernel
theorem dX9_barnacleAt_36 : decode cX9_barnacleAt 36 = .ok (.goto 4, 3) := by decide +kernel
theorem dX9_barnacleAt_39 : decode cX9_barnacleAt 39 = .ok (.iload_n 3, 1) := by decide +kernel
theorem dX9_barnacleAt_40 : decode cX9_barnacleAt 40 = .ok (.ireturn, 1) := by decide +kernel
theorem dX9_barnacleCount_0 : decode cX9_barnacleCount 0 = .ok (.aload_n 0, 1) := by decide +kernel
theorem dX9_barnacleCount_1 : decode cX9_barnacleCount 1 = .ok (.iconst 1, 1) := by decide +kernel
theorem dX9_barnacleCount_2 : decode cX9_barnacleCount 2 = .ok (.invokevirtual 200, 3) := by decide +kernel
theorem dX9_barnacleCount_5 : decode cX9_barnacleCount 5 = .ok (.ireturn, 1) := by decide +kernel
theorem dX9_shipOf_0 : decode cX9_shipOf 0 = .ok (.aload_n 0, 1) := by decide +kernel
theorem dX9_shipOf_1 : decode cX9_shipOf 1 = .ok (.iconst 0, 1) := by decide +kernel
theorem dX9_shipOf_2 : decode cX9_shipOf 2 = .ok (.putfield 38, 3) := by decide +kernel
theorem dX9_shipOf_5 : decode cX9_shipOf 5 = .ok (.aload_n 0, 1) := by decide +kernel
theorem dX9_shipOf_6 : decode cX9_shipOf 6 = .ok (.iload_n 1, 1) := by decide +kernel
theorem dX9_shipOf_7 : decode cX9_shipOf 7 = .ok (.invokevirtual 144, 3) := by decide +kernel
theorem dX9_shipOf_10 : decode cX9_shipOf 10 = .ok (.ifCond .eq 15, 3) := by decide +kernel
theorem dX9_shipOf_13 : decode cX9_shipOf 13 = .ok (.aload_n 0, 1) := by decide +kernel
theorem dX9_shipOf_14 : decode cX9_shipOf 14 = .ok (.getfield 9, 3) := by decide +kernel
theorem dX9_shipOf_17 : decode cX9_shipOf 17 = .ok (.iload_n 1, 1) := by decide +kernel
theorem dX9_shipOf_18 : decode cX9_shipOf 18 = .ok (.invokestatic 70, 3) := by decide +kernel
theorem dX9_shipOf_21 : decode cX9_shipOf 21 = .ok (.iaload, 1) := by decide +kernel
theorem dX9_shipOf_22 : decode cX9_shipOf 22 = .ok (.goto 8, 3) := by decide +kernel
theorem dX9_shipOf_25 : decode cX9_shipOf 25 = .ok (.aload_n 0, 1) := by decide +kernel
theorem dX9_shipOf_26 : decode cX9_shipOf 26 = .ok (.iconst 1, 1) := by decide +kernel
theorem dX9_shipOf_27 : decode cX9_shipOf 27 = .ok (.invokevirtual 47, 3) := by decide +kernel
theorem dX9_shipOf_30 : decode cX9_shipOf 30 = .ok (.ireturn, 1) := by decide +kernel
theorem dX9_gradeOf_0 : decode cX9_gradeOf 0 = .ok (.aload_n 0, 1) := by decide +kernel
theorem dX9_gradeOf_1 : decode cX9_gradeOf 1 = .ok (.iconst 0, 1) := by decide +kernel
theorem dX9_gradeOf_2 : decode cX9_gradeOf 2 = .ok (.putfield 38, 3) := by decide +kernel
theorem dX9_gradeOf_5 : decode cX9_gradeOf 5 = .ok (.aload_n 0, 1) := by decide +kernel
theorem dX9_gradeOf_6 : decode cX9_gradeOf 6 = .ok (.iload_n 1, 1) := by decide +kernel
theorem dX9_gradeOf_7 : decode cX9_gradeOf 7 = .ok (.invokevirtual 144, 3) := by decide +kernel
theorem dX9_gradeOf_10 : decode cX9_gradeOf 10 = .ok (.ifCond .eq 11, 3) := by decide +kernel
theorem dX9_gradeOf_13 : decode cX9_gradeOf 13 = .ok (.aload_n 0, 1) := by decide +kernel
theorem dX9_gradeOf_14 : decode cX9_gradeOf 14 = .ok (.iload_n 1, 1) := by decide +kernel
theorem dX9_gradeOf_15 : decode cX9_gradeOf 15 = .ok (.invokevirtual 85, 3) := by decide +kernel
theorem dX9_gradeOf_18 : decode cX9_gradeOf 18 = .ok (.goto 8, 3) := by decide +kernel
theorem dX9_gradeOf_21 : decode cX9_gradeOf 21 = .ok (.aload_n 0, 1) := by decide +kernel
theorem dX9_gradeOf_22 : decode cX9_gradeOf 22 = .ok (.iconst 1, 1) := by decide +kernel
theorem dX9_gradeOf_23 : decode cX9_gradeOf 23 = .ok (.invokevirtual 47, 3) := by decide +kernel
theorem dX9_gradeOf_26 : decode cX9_gradeOf 26 = .ok (.ireturn, 1) := by decide +kernel
theorem dX9_isOffered_0 : decode cX9_isOffered 0 = .ok (.aload_n 0, 1) := by decide +kernel
theorem dX9_isOffered_1 : decode cX9_isOffered 1 = .ok (.iconst 0, 1) := by decide +kernel
theorem dX9_isOffered_2 : decode cX9_isOffered 2 = .ok (.putfield 38, 3) := by decide +kernel
theorem dX9_isOffered_5 : decode cX9_isOffered 5 = .ok (.aload_n 0, 1) := by decide +kernel
theorem dX9_isOffered_6 : decode cX9_isOffered 6 = .ok (.iload_n 1, 1) := by decide +kernel
theorem dX9_isOffered_7 : decode cX9_isOffered 7 = .ok (.invokevirtual 144, 3) := by decide +kernel
theorem dX9_isOffered_10 : decode cX9_isOffered 10 = .ok (.ifCond .ne 11, 3) := by decide +kernel
theorem dX9_isOffered_13 : decode cX9_isOffered 13 = .ok (.aload_n 0, 1) := by decide +kernel
theorem dX9_isOffered_14 : decode cX9_isOffered 14 = .ok (.iconst 1, 1) := by decide +kernel
theorem dX9_isOffered_15 : decode cX9_isOffered 15 = .ok (.invokevirtual 47, 3) := by decide +kernel
theorem dX9_isOffered_18 : decode cX9_isOffered 18 = .ok (.pop, 1) := by decide +kernel
theorem dX9_isOffered_19 : decode cX9_isOffered 19 = .ok (.iconst 0, 1) := by decide +kernel
theorem dX9_isOffered_20 : decode cX9_isOffered 20 = .ok (.ireturn, 1) := by decide +kernel
theorem dX9_isOffered_21 : decode cX9_isOffered 21 = .ok (.aload_n 0, 1) := by decide +kernel
theorem dX9_isOffered_22 : decode cX9_isOffered 22 = .ok (.iload_n 1, 1) := by decide +kernel
theorem dX9_isOffered_23 : decode cX9_isOffered 23 = .ok (.invokevirtual 147, 3) := by decide +kernel
theorem dX9_isOffered_26 : decode cX9_isOffered 26 = .ok (.iconst (-1), 1) := by decide +kernel
theorem dX9_isOffered_27 : decode cX9_isOffered 27 = .ok (.if_icmp .eq 7, 3) := by decide +kernel
theorem dX9_isOffered_30 : decode cX9_isOffered 30 = .ok (.iconst 1, 1) := by decide +kernel
theorem dX9_isOffered_31 : decode cX9_isOffered 31 = .ok (.goto 4, 3) := by decide +kernel
theorem dX9_isOffered_34 : decode cX9_isOffered 34 = .ok (.iconst 0, 1) := by decide +kernel
theorem dX9_isOffered_35 : decode cX9_isOffered 35 = .ok (.ireturn, 1) := by decide +kernel
theorem dX9_bidCount_0 : decode cX9_bidCount 0 = .ok (.aload_n 0, 1) := by decide +kernel
theorem dX9_bidCount_1 : decode cX9_bidCount 1 = .ok (.iconst 2, 1) := by decide +kernel
theorem dX9_bidCount_2 : decode cX9_bidCount 2 = .ok (.invokevirtual 200, 3) := by decide +kernel
theorem dX9_bidCount_5 : decode cX9_bidCount 5 = .ok (.ireturn, 1) := by decide +kernel
theorem dX9_offerCount_0 : decode cX9_offerCount 0 = .ok (.aload_n 0, 1) := by decide +kernel
theorem dX9_offerCount_1 : decode cX9_offerCount 1 = .ok (.iconst 3, 1) := by decide +kernel
theorem dX9_offerCount_2 : decode cX9_offerCount 2 = .ok (.invokevirtual 200, 3) := by decide +kernel
theorem dX9_offerCount_5 : decode cX9_offerCount 5 = .ok (.ireturn, 1) := by decide +kernel
theorem dX9_bidAt_0 : decode cX9_bidAt 0 = .ok (.aload_n 0, 1) := by decide +kernel
theorem dX9_bidAt_1 : decode cX9_bidAt 1 = .ok (.iconst 0, 1) := by decide +kernel
theorem dX9_bidAt_2 : decode cX9_bidAt 2 = .ok (.putfield 38, 3) := by decide +kernel
theorem dX9_bidAt_5 : decode cX9_bidAt 5 = .ok (.aload_n 0, 1) := by decide +kernel
theorem dX9_bidAt_6 : decode cX9_bidAt 6 = .ok (.iload_n 1, 1) := by decide +kernel
theorem dX9_bidAt_7 : decode cX9_bidAt 7 = .ok (.invokevirtual 135, 3) := by decide +kernel
theorem dX9_bidAt_10 : decode cX9_bidAt 10 = .ok (.istore_n 2, 1) := by decide +kernel
theorem dX9_bidAt_11 : decode cX9_bidAt 11 = .ok (.iload_n 2, 1) := by decide +kernel
theorem dX9_bidAt_12 : decode cX9_bidAt 12 = .ok (.iconst (-1), 1) := by decide +kernel
theorem dX9_bidAt_13 : decode cX9_bidAt 13 = .ok (.if_icmp .ne 11, 3) := by decide +kernel
theorem dX9_bidAt_16 : decode cX9_bidAt 16 = .ok (.aload_n 0, 1) := by decide +kernel
theorem dX9_bidAt_17 : decode cX9_bidAt 17 = .ok (.iconst 1, 1) := by decide +kernel
theorem dX9_bidAt_18 : decode cX9_bidAt 18 = .ok (.invokevirtual 47, 3) := by decide +kernel
theorem dX9_bidAt_21 : decode cX9_bidAt 21 = .ok (.goto 12, 3) := by decide +kernel
theorem dX9_bidAt_24 : decode cX9_bidAt 24 = .ok (.aload_n 0, 1) := by decide +kernel
theorem dX9_bidAt_25 : decode cX9_bidAt 25 = .ok (.getfield 9, 3) := by decide +kernel
theorem dX9_bidAt_28 : decode cX9_bidAt 28 = .ok (.iload_n 2, 1) := by decide +kernel
theorem dX9_bidAt_29 : decode cX9_bidAt 29 = .ok (.invokestatic 73, 3) := by decide +kernel
theorem dX9_bidAt_32 : decode cX9_bidAt 32 = .ok (.iaload, 1) := by decide +kernel
theorem dX9_bidAt_33 : decode cX9_bidAt 33 = .ok (.ireturn, 1) := by decide +kernel
theorem dX9_offerAt_0 : decode cX9_offerAt 0 = .ok (.aload_n 0, 1) := by decide +kernel
theorem dX9_offerAt_1 : decode cX9_offerAt 1 = .ok (.iconst 0, 1) := by decide +kernel
theorem dX9_offerAt_2 : decode cX9_offerAt 2 = .ok (.putfield 38, 3) := by decide +kernel
theorem dX9_offerAt_5 : decode cX9_offerAt 5 = .ok (.aload_n 0, 1) := by decide +kernel
theorem dX9_offerAt_6 : decode cX9_offerAt 6 = .ok (.iload_n 1, 1) := by decide +kernel
theorem dX9_offerAt_7 : decode cX9_offerAt 7 = .ok (.invokevirtual 206, 3) := by decide +kernel
theorem dX9_offerAt_10 : decode cX9_offerAt 10 = .ok (.istore_n 2, 1) := by decide +kernel
theorem dX9_offerAt_11 : decode cX9_offerAt 11 = .ok (.iload_n 2, 1) := by decide +kernel
theorem dX9_offerAt_12 : decode cX9_offerAt 12 = .ok (.iconst (-1), 1) := by decide +kernel
theorem dX9_offerAt_13 : decode cX9_offerAt 13 = .ok (.if_icmp .ne 11, 3) := by decide +kernel
theorem dX9_offerAt_16 : decode cX9_offerAt 16 = .ok (.aload_n 0, 1) := by decide +kernel
theorem dX9_offerAt_17 : decode cX9_offerAt 17 = .ok (.iconst 1, 1) := by decide +kernel
theorem dX9_offerAt_18 : decode cX9_offerAt 18 = .ok (.invokevirtual 47, 3) := by decide +kernel
theorem dX9_offerAt_21 : decode cX9_offerAt 21 = .ok (.goto 12, 3) := by decide +kernel
theorem dX9_offerAt_24 : decode cX9_offerAt 24 = .ok (.aload_n 0, 1) := by decide +kernel
theorem dX9_offerAt_25 : decode cX9_offerAt 25 = .ok (.getfield 9, 3) := by decide +kernel
theorem dX9_offerAt_28 : decode cX9_offerAt 28 = .ok (.iload_n 2, 1) := by decide +kernel
theorem dX9_offerAt_29 : decode cX9_offerAt 29 = .ok (.invokestatic 82, 3) := by decide +kernel
theorem dX9_offerAt_32 : decode cX9_offerAt 32 = .ok (.iaload, 1) := by decide +kernel
theorem dX9_offerAt_33 : decode cX9_offerAt 33 = .ok (.ireturn, 1) := by decide +kernel
theorem dX9_ofBid_0 : decode cX9_ofBid 0 = .ok (.aload_n 0, 1) := by decide +kernel
theorem dX9_ofBid_1 : decode cX9_ofBid 1 = .ok (.iconst 0, 1) := by decide +kernel
theorem dX9_ofBid_2 : decode cX9_ofBid 2 = .ok (.putfield 38, 3) := by decide +kernel
theorem dX9_ofBid_5 : decode cX9_ofBid 5 = .ok (.aload_n 0, 1) := by decide +kernel
theorem dX9_ofBid_6 : decode cX9_ofBid 6 = .ok (.iload_n 1, 1) := by decide +kernel
theorem dX9_ofBid_7 : decode cX9_ofBid 7 = .ok (.invokevirtual 153, 3) := by decide +kernel
theorem dX9_ofBid_10 : decode cX9_ofBid 10 = .ok (.istore_n 3, 1) := by decide +kernel
theorem dX9_ofBid_11 : decode cX9_ofBid 11 = .ok (.iload_n 3, 1) := by decide +kernel
theorem dX9_ofBid_12 : decode cX9_ofBid 12 = .ok (.iconst (-1), 1) := by decide +kernel
theorem dX9_ofBid_13 : decode cX9_ofBid 13 = .ok (.if_icmp .ne 11, 3) := by decide +kernel
theorem dX9_ofBid_16 : decode cX9_ofBid 16 = .ok (.aload_n 0, 1) := by decide +kernel
theorem dX9_ofBid_17 : decode cX9_ofBid 17 = .ok (.iconst 1, 1) := by decide +kernel
theorem dX9_ofBid_18 : decode cX9_ofBid 18 = .ok (.invokevirtual 47, 3) := by decide +kernel
theorem dX9_ofBid_21 : decode cX9_ofBid 21 = .ok (.goto 14, 3) := by decide +kernel
theorem dX9_ofBid_24 : decode cX9_ofBid 24 = .ok (.aload_n 0, 1) := by decide +kernel
theorem dX9_ofBid_25 : decode cX9_ofBid 25 = .ok (.getfield 9, 3) := by decide +kernel
theorem dX9_ofBid_28 : decode cX9_ofBid 28 = .ok (.iload_n 3, 1) := by decide +kernel
theorem dX9_ofBid_29 : decode cX9_ofBid 29 = .ok (.invokestatic 73, 3) := by decide +kernel
theorem dX9_ofBid_32 : decode cX9_ofBid 32 = .ok (.iload_n 2, 1) := by decide +kernel
theorem dX9_ofBid_33 : decode cX9_ofBid 33 = .ok (.iadd, 1) := by decide +kernel
theorem dX9_ofBid_34 : decode cX9_ofBid 34 = .ok (.iaload, 1) := by decide +kernel
theorem dX9_ofBid_35 : decode cX9_ofBid 35 = .ok (.ireturn, 1) := by decide +kernel
theorem dX9_ofOffer_0 : decode cX9_ofOffer 0 = .ok (.aload_n 0, 1) := by decide +kernel
theorem dX9_ofOffer_1 : decode cX9_ofOffer 1 = .ok (.iconst 0, 1) := by decide +kernel
theorem dX9_ofOffer_2 : decode cX9_ofOffer 2 = .ok (.putfield 38, 3) := by decide +kernel
theorem dX9_ofOffer_5 : decode cX9_ofOffer 5 = .ok (.aload_n 0, 1) := by decide +kernel
theorem dX9_ofOffer_6 : decode cX9_ofOffer 6 = .ok (.iload_n 1, 1) := by decide +kernel
theorem dX9_ofOffer_7 : decode cX9_ofOffer 7 = .ok (.invokevirtual 163, 3) := by decide +kernel
theorem dX9_ofOffer_10 : decode cX9_ofOffer 10 = .ok (.istore_n 3, 1) := by decide +kernel
theorem dX9_ofOffer_11 : decode cX9_ofOffer 11 = .ok (.iload_n 3, 1) := by decide +kernel
theorem dX9_ofOffer_12 : decode cX9_ofOffer 12 = .ok (.iconst (-1), 1) := by decide +kernel
theorem dX9_ofOffer_13 : decode cX9_ofOffer 13 = .ok (.if_icmp .ne 11, 3) := by decide +kernel
theorem dX9_ofOffer_16 : decode cX9_ofOffer 16 = .ok (.aload_n 0, 1) := by decide +kernel
theorem dX9_ofOffer_17 : decode cX9_ofOffer 17 = .ok (.iconst 1, 1) := by decide +kernel
theorem dX9_ofOffer_18 : decode cX9_ofOffer 18 = .ok (.invokevirtual 47, 3) := by decide +kernel
theorem dX9_ofOffer_21 : decode cX9_ofOffer 21 = .ok (.goto 14, 3) := by decide +kernel
theorem dX9_ofOffer_24 : decode cX9_ofOffer 24 = .ok (.aload_n 0, 1) := by decide +kernel
theorem dX9_ofOffer_25 : decode cX9_ofOffer 25 = .ok (.getfield 9, 3) := by decide +kernel
theorem dX9_ofOffer_28 : decode cX9_ofOffer 28 = .ok (.iload_n 3, 1) := by decide +kernel
theorem dX9_ofOffer_29 : decode cX9_ofOffer 29 = .ok (.invokestatic 82, 3) := by decide +kernel
theorem dX9_ofOffer_32 : decode cX9_ofOffer 32 = .ok (.iload_n 2, 1) := by decide +kernel
theorem dX9_ofOffer_33 : decode cX9_ofOffer 33 = .ok (.iadd, 1) := by decide +kernel
theorem dX9_ofOffer_34 : decode cX9_ofOffer 34 = .ok (.iaload, 1) := by decide +kernel
theorem dX9_ofOffer_35 : decode cX9_ofOffer 35 = .ok (.ireturn, 1) := by decide +kernel
theorem dX9_shipOfBid_0 : decode cX9_shipOfBid 0 = .ok (.aload_n 0, 1) := by decide +kernel
theorem dX9_shipOfBid_1 : decode cX9_shipOfBid 1 = .ok (.iload_n 1, 1) := by decide +kernel
theorem dX9_shipOfBid_2 : decode cX9_shipOfBid 2 = .ok (.iconst 1, 1) := by decide +kernel
theorem dX9_shipOfBid_3 : decode cX9_shipOfBid 3 = .ok (.invokevirtual 209, 3) := by decide +kernel
theorem dX9_shipOfBid_6 : decode cX9_shipOfBid 6 = .ok (.ireturn, 1) := by decide +kernel
theorem dX9_gradeOfBid_0 : decode cX9_gradeOfBid 0 = .ok (.aload_n 0, 1) := by decide +kernel
theorem dX9_gradeOfBid_1 : decode cX9_gradeOfBid 1 = .ok (.iload_n 1, 1) := by decide +kernel
theorem dX9_gradeOfBid_2 : decode cX9_gradeOfBid 2 = .ok (.iconst 2, 1) := by decide +kernel
theorem dX9_gradeOfBid_3 : decode cX9_gradeOfBid 3 = .ok (.invokevirtual 209, 3) := by decide +kernel
theorem dX9_gradeOfBid_6 : decode cX9_gradeOfBid 6 = .ok (.ireturn, 1) := by decide +kernel
theorem dX9_priceOfBid_0 : decode cX9_priceOfBid 0 = .ok (.aload_n 0, 1) := by decide +kernel
theorem dX9_priceOfBid_1 : decode cX9_priceOfBid 1 = .ok (.iload_n 1, 1) := by decide +kernel
theorem dX9_priceOfBid_2 : decode cX9_priceOfBid 2 = .ok (.iconst 3, 1) := by decide +kernel
theorem dX9_priceOfBid_3 : decode cX9_priceOfBid 3 = .ok (.invokevirtual 209, 3) := by decide +kernel
theorem dX9_priceOfBid_6 : decode cX9_priceOfBid 6 = .ok (.ireturn, 1) := by decide +kernel
theorem dX9_ageOfBid_0 : decode cX9_ageOfBid 0 = .ok (.aload_n 0, 1) := by decide +kernel
theorem dX9_ageOfBid_1 : decode cX9_ageOfBid 1 = .ok (.iload_n 1, 1) := by decide +kernel
theorem dX9_ageOfBid_2 : decode cX9_ageOfBid 2 = .ok (.iconst 4, 1) := by decide +kernel
theorem dX9_ageOfBid_3 : decode cX9_ageOfBid 3 = .ok (.invokevirtual 209, 3) := by decide +kernel
theorem dX9_ageOfBid_6 : decode cX9_ageOfBid 6 = .ok (.ireturn, 1) := by decide +kernel
theorem dX9_barnacleOfOffer_0 : decode cX9_barnacleOfOffer 0 = .ok (.aload_n 0, 1) := by decide +kernel
theorem dX9_barnacleOfOffer_1 : decode cX9_barnacleOfOffer 1 = .ok (.iload_n 1, 1) := by decide +kernel
theorem dX9_barnacleOfOffer_2 : decode cX9_barnacleOfOffer 2 = .ok (.iconst 1, 1) := by decide +kernel
theorem dX9_barnacleOfOffer_3 : decode cX9_barnacleOfOffer 3 = .ok (.invokevirtual 212, 3) := by decide +kernel
theorem dX9_barnacleOfOffer_6 : decode cX9_barnacleOfOffer 6 = .ok (.ireturn, 1) := by decide +kernel
theorem dX9_priceOfOffer_0 : decode cX9_priceOfOffer 0 = .ok (.aload_n 0, 1) := by decide +kernel
theorem dX9_priceOfOffer_1 : decode cX9_priceOfOffer 1 = .ok (.iload_n 1, 1) := by decide +kernel
theorem dX9_priceOfOffer_2 : decode cX9_priceOfOffer 2 = .ok (.iconst 2, 1) := by decide +kernel
theorem dX9_priceOfOffer_3 : decode cX9_priceOfOffer 3 = .ok (.invokevirtual 212, 3) := by decide +kernel
theorem dX9_priceOfOffer_6 : decode cX9_priceOfOffer 6 = .ok (.ireturn, 1) := by decide +kernel
theorem dX9_ageOfOffer_0 : decode cX9_ageOfOffer 0 = .ok (.aload_n 0, 1) := by decide +kernel
theorem dX9_ageOfOffer_1 : decode cX9_ageOfOffer 1 = .ok (.iload_n 1, 1) := by decide +kernel
theorem dX9_ageOfOffer_2 : decode cX9_ageOfOffer 2 = .ok (.iconst 3, 1) := by decide +kernel
theorem dX9_ageOfOffer_3 : decode cX9_ageOfOffer 3 = .ok (.invokevirtual 212, 3) := by decide +kernel
theorem dX9_ageOfOffer_6 : decode cX9_ageOfOffer 6 = .ok (.ireturn, 1) := by decide +kernel
theorem dX9_matchFor_0 : decode cX9_matchFor 0 = .ok (.aload_n 0, 1) := by decide +kernel
theorem dX9_matchFor_1 : decode cX9_matchFor 1 = .ok (.iconst 0, 1) := by decide +kernel
theorem dX9_matchFor_2 : decode cX9_matchFor 2 = .ok (.putfield 38, 3) := by decide +kernel
theorem dX9_matchFor_5 : decode cX9_matchFor 5 = .ok (.aload_n 0, 1) := by decide +kernel
theorem dX9_matchFor_6 : decode cX9_matchFor 6 = .ok (.iload_n 1, 1) := by decide +kernel
theorem dX9_matchFor_7 : decode cX9_matchFor 7 = .ok (.invokevirtual 153, 3) := by decide +kernel
theorem dX9_matchFor_10 : decode cX9_matchFor 10 = .ok (.istore_n 2, 1) := by decide +kernel
theorem dX9_matchFor_11 : decode cX9_matchFor 11 = .ok (.iload_n 2, 1) := by decide +kernel
theorem dX9_matchFor_12 : decode cX9_matchFor 12 = .ok (.iconst (-1), 1) := by decide +kernel
theorem dX9_matchFor_13 : decode cX9_matchFor 13 = .ok (.if_icmp .ne 7, 3) := by decide +kernel
theorem dX9_matchFor_16 : decode cX9_matchFor 16 = .ok (.iconst (-1), 1) := by decide +kernel
theorem dX9_matchFor_17 : decode cX9_matchFor 17 = .ok (.goto 8, 3) := by decide +kernel
theorem dX9_matchFor_20 : decode cX9_matchFor 20 = .ok (.aload_n 0, 1) := by decide +kernel
theorem dX9_matchFor_21 : decode cX9_matchFor 21 = .ok (.iload_n 2, 1) := by decide +kernel
theorem dX9_matchFor_22 : decode cX9_matchFor 22 = .ok (.invokevirtual 180, 3) := by decide +kernel
theorem dX9_matchFor_25 : decode cX9_matchFor 25 = .ok (.istore_n 3, 1) := by decide +kernel
theorem dX9_matchFor_26 : decode cX9_matchFor 26 = .ok (.iload_n 3, 1) := by decide +kernel
theorem dX9_matchFor_27 : decode cX9_matchFor 27 = .ok (.iconst (-1), 1) := by decide +kernel
theorem dX9_matchFor_28 : decode cX9_matchFor 28 = .ok (.if_icmp .ne 11, 3) := by decide +kernel
theorem dX9_matchFor_31 : decode cX9_matchFor 31 = .ok (.aload_n 0, 1) := by decide +kernel
theorem dX9_matchFor_32 : decode cX9_matchFor 32 = .ok (.iconst 1, 1) := by decide +kernel
theorem dX9_matchFor_33 : decode cX9_matchFor 33 = .ok (.invokevirtual 47, 3) := by decide +kernel
theorem dX9_matchFor_36 : decode cX9_matchFor 36 = .ok (.goto 12, 3) := by decide +kernel
theorem dX9_matchFor_39 : decode cX9_matchFor 39 = .ok (.aload_n 0, 1) := by decide +kernel
theorem dX9_matchFor_40 : decode cX9_matchFor 40 = .ok (.getfield 9, 3) := by decide +kernel
theorem dX9_matchFor_43 : decode cX9_matchFor 43 = .ok (.iload_n 3, 1) := by decide +kernel
theorem dX9_matchFor_44 : decode cX9_matchFor 44 = .ok (.invokestatic 82, 3) := by decide +kernel
theorem dX9_matchFor_47 : decode cX9_matchFor 47 = .ok (.iaload, 1) := by decide +kernel
theorem dX9_matchFor_48 : decode cX9_matchFor 48 = .ok (.ireturn, 1) := by decide +kernel
theorem dX9_matchByBarnacles_0 : decode cX9_matchByBarnacles 0 = .ok (.aload_n 0, 1) := by decide +kernel
theorem dX9_matchByBarnacles_1 : decode cX9_matchByBarnacles 1 = .ok (.iload_n 1, 1) := by decide +kernel
theorem dX9_matchByBarnacles_2 : decode cX9_matchByBarnacles 2 = .ok (.invokevirtual 215, 3) := by decide +kernel
theorem dX9_matchByBarnacles_5 : decode cX9_matchByBarnacles 5 = .ok (.ireturn, 1) := by decide +kernel
theorem dX9_spread_0 : decode cX9_spread 0 = .ok (.aload_n 0, 1) := by decide +kernel
theorem dX9_spread_1 : decode cX9_spread 1 = .ok (.iconst 0, 1) := by decide +kernel
theorem dX9_spread_2 : decode cX9_spread 2 = .ok (.putfield 38, 3) := by decide +kernel
theorem dX9_spread_5 : decode cX9_spread 5 = .ok (.aload_n 0, 1) := by decide +kernel
theorem dX9_spread_6 : decode cX9_spread 6 = .ok (.getfield 9, 3) := by decide +kernel
theorem dX9_spread_9 : decode cX9_spread 9 = .ok (.iconst 2, 1) := by decide +kernel
theorem dX9_spread_10 : decode cX9_spread 10 = .ok (.iaload, 1) := by decide +kernel
theorem dX9_spread_11 : decode cX9_spread 11 = .ok (.ifCond .eq 12, 3) := by decide +kernel
theorem dX9_spread_14 : decode cX9_spread 14 = .ok (.aload_n 0, 1) := by decide +kernel
theorem dX9_spread_15 : decode cX9_spread 15 = .ok (.getfield 9, 3) := by decide +kernel
theorem dX9_spread_18 : decode cX9_spread 18 = .ok (.iconst 3, 1) := by decide +kernel
theorem dX9_spread_19 : decode cX9_spread 19 = .ok (.iaload, 1) := by decide +kernel
theorem dX9_spread_20 : decode cX9_spread 20 = .ok (.ifCond .ne 9, 3) := by decide +kernel
theorem dX9_spread_23 : decode cX9_spread 23 = .ok (.aload_n 0, 1) := by decide +kernel
theorem dX9_spread_24 : decode cX9_spread 24 = .ok (.iconst 1, 1) := by decide +kernel
theorem dX9_spread_25 : decode cX9_spread 25 = .ok (.invokevirtual 47, 3) := by decide +kernel
theorem dX9_spread_28 : decode cX9_spread 28 = .ok (.ireturn, 1) := by decide +kernel
theorem dX9_spread_29 : decode cX9_spread 29 = .ok (.aload_n 0, 1) := by decide +kernel
theorem dX9_spread_30 : decode cX9_spread 30 = .ok (.getfield 9, 3) := by decide +kernel
theorem dX9_spread_33 : decode cX9_spread 33 = .ok (.aload_n 0, 1) := by decide +kernel
theorem dX9_spread_34 : decode cX9_spread 34 = .ok (.iconst 0, 1) := by decide +kernel
theorem dX9_spread_35 : decode cX9_spread 35 = .ok (.invokevirtual 135, 3) := by decide +kernel
theorem dX9_spread_38 : decode cX9_spread 38 = .ok (.invokestatic 73, 3) := by decide +kernel
theorem dX9_spread_41 : decode cX9_spread 41 = .ok (.iconst 3, 1) := by decide +kernel
theorem dX9_spread_42 : decode cX9_spread 42 = .ok (.iadd, 1) := by decide +kernel
theorem dX9_spread_43 : decode cX9_spread 43 = .ok (.iaload, 1) := by decide +kernel
theorem dX9_spread_44 : decode cX9_spread 44 = .ok (.aload_n 0, 1) := by decide +kernel
theorem dX9_spread_45 : decode cX9_spread 45 = .ok (.getfield 9, 3) := by decide +kernel
theorem dX9_spread_48 : decode cX9_spread 48 = .ok (.aload_n 0, 1) := by decide +kernel
theorem dX9_spread_49 : decode cX9_spread 49 = .ok (.iconst 0, 1) := by decide +kernel
theorem dX9_spread_50 : decode cX9_spread 50 = .ok (.invokevirtual 206, 3) := by decide +kernel
theorem dX9_spread_53 : decode cX9_spread 53 = .ok (.invokestatic 82, 3) := by decide +kernel
theorem dX9_spread_56 : decode cX9_spread 56 = .ok (.iconst 2, 1) := by decide +kernel
theorem dX9_spread_57 : decode cX9_spread 57 = .ok (.iadd, 1) := by decide +kernel
theorem dX9_spread_58 : decode cX9_spread 58 = .ok (.iaload, 1) := by decide +kernel
theorem dX9_spread_59 : decode cX9_spread 59 = .ok (.isub, 1) := by decide +kernel
theorem dX9_spread_60 : decode cX9_spread 60 = .ok (.ireturn, 1) := by decide +kernel
theorem dX9_fee_0 : decode cX9_fee 0 = .ok (.aload_n 0, 1) := by decide +kernel
theorem dX9_fee_1 : decode cX9_fee 1 = .ok (.bipush 6, 2) := by decide +kernel
theorem dX9_fee_3 : decode cX9_fee 3 = .ok (.invokevirtual 200, 3) := by decide +kernel
theorem dX9_fee_6 : decode cX9_fee 6 = .ok (.ireturn, 1) := by decide +kernel
theorem dX9_tideCount_0 : decode cX9_tideCount 0 = .ok (.aload_n 0, 1) := by decide +kernel
theorem dX9_tideCount_1 : decode cX9_tideCount 1 = .ok (.bipush 7, 2) := by decide +kernel
theorem dX9_tideCount_3 : decode cX9_tideCount 3 = .ok (.invokevirtual 200, 3) := by decide +kernel
theorem dX9_tideCount_6 : decode cX9_tideCount 6 = .ok (.ireturn, 1) := by decide +kernel
theorem dX9_ofTrade_0 : decode cX9_ofTrade 0 = .ok (.aload_n 0, 1) := by decide +kernel
theorem dX9_ofTrade_1 : decode cX9_ofTrade 1 = .ok (.iconst 0, 1) := by decide +kernel
theorem dX9_ofTrade_2 : decode cX9_ofTrade 2 = .ok (.putfield 38, 3) := by decide +kernel
theorem dX9_ofTrade_5 : decode cX9_ofTrade 5 = .ok (.iload_n 1, 1) := by decide +kernel
theorem dX9_ofTrade_6 : decode cX9_ofTrade 6 = .ok (.i2l, 1) := by decide +kernel
theorem dX9_ofTrade_7 : decode cX9_ofTrade 7 = .ok (.lconst 0, 1) := by decide +kernel
theorem dX9_ofTrade_8 : decode cX9_ofTrade 8 = .ok (.aload_n 0, 1) := by decide +kernel
theorem dX9_ofTrade_9 : decode cX9_ofTrade 9 = .ok (.getfield 9, 3) := by decide +kernel
theorem dX9_ofTrade_12 : decode cX9_ofTrade 12 = .ok (.bipush 13, 2) := by decide +kernel
theorem dX9_ofTrade_14 : decode cX9_ofTrade 14 = .ok (.iaload, 1) := by decide +kernel
theorem dX9_ofTrade_15 : decode cX9_ofTrade 15 = .ok (.iconst 1, 1) := by decide +kernel
theorem dX9_ofTrade_16 : decode cX9_ofTrade 16 = .ok (.isub, 1) := by decide +kernel
theorem dX9_ofTrade_17 : decode cX9_ofTrade 17 = .ok (.i2l, 1) := by decide +kernel
theorem dX9_ofTrade_18 : decode cX9_ofTrade 18 = .ok (.invokestatic 63, 3) := by decide +kernel
theorem dX9_ofTrade_21 : decode cX9_ofTrade 21 = .ok (.ifCond .eq 20, 3) := by decide +kernel
theorem dX9_ofTrade_24 : decode cX9_ofTrade 24 = .ok (.aload_n 0, 1) := by decide +kernel
theorem dX9_ofTrade_25 : decode cX9_ofTrade 25 = .ok (.getfield 9, 3) := by decide +kernel
theorem dX9_ofTrade_28 : decode cX9_ofTrade 28 = .ok (.sipush 172, 3) := by decide +kernel
theorem dX9_ofTrade_31 : decode cX9_ofTrade 31 = .ok (.iconst 4, 1) := by decide +kernel
theorem dX9_ofTrade_32 : decode cX9_ofTrade 32 = .ok (.iload_n 1, 1) := by decide +kernel
theorem dX9_ofTrade_33 : decode cX9_ofTrade 33 = .ok (.imul, 1) := by decide +kernel
theorem dX9_ofTrade_34 : decode cX9_ofTrade 34 = .ok (.iadd, 1) := by decide +kernel
theorem dX9_ofTrade_35 : decode cX9_ofTrade 35 = .ok (.iload_n 2, 1) := by decide +kernel
theorem dX9_ofTrade_36 : decode cX9_ofTrade 36 = .ok (.iadd, 1) := by decide +kernel
theorem dX9_ofTrade_37 : decode cX9_ofTrade 37 = .ok (.iaload, 1) := by decide +kernel
theorem dX9_ofTrade_38 : decode cX9_ofTrade 38 = .ok (.goto 8, 3) := by decide +kernel
theorem dX9_ofTrade_41 : decode cX9_ofTrade 41 = .ok (.aload_n 0, 1) := by decide +kernel
theorem dX9_ofTrade_42 : decode cX9_ofTrade 42 = .ok (.iconst 1, 1) := by decide +kernel
theorem dX9_ofTrade_43 : decode cX9_ofTrade 43 = .ok (.invokevirtual 47, 3) := by decide +kernel
theorem dX9_ofTrade_46 : decode cX9_ofTrade 46 = .ok (.ireturn, 1) := by decide +kernel
theorem dX9_buyerOf_0 : decode cX9_buyerOf 0 = .ok (.aload_n 0, 1) := by decide +kernel
theorem dX9_buyerOf_1 : decode cX9_buyerOf 1 = .ok (.iload_n 1, 1) := by decide +kernel
theorem dX9_buyerOf_2 : decode cX9_buyerOf 2 = .ok (.iconst 0, 1) := by decide +kernel
theorem dX9_buyerOf_3 : decode cX9_buyerOf 3 = .ok (.invokevirtual 218, 3) := by decide +kernel
theorem dX9_buyerOf_6 : decode cX9_buyerOf 6 = .ok (.ireturn, 1) := by decide +kernel
theorem dX9_sellerOf_0 : decode cX9_sellerOf 0 = .ok (.aload_n 0, 1) := by decide +kernel
theorem dX9_sellerOf_1 : decode cX9_sellerOf 1 = .ok (.iload_n 1, 1) := by decide +kernel
theorem dX9_sellerOf_2 : decode cX9_sellerOf 2 = .ok (.iconst 1, 1) := by decide +kernel
theorem dX9_sellerOf_3 : decode cX9_sellerOf 3 = .ok (.invokevirtual 218, 3) := by decide +kernel
theorem dX9_sellerOf_6 : decode cX9_sellerOf 6 = .ok (.ireturn, 1) := by decide +kernel
theorem dX9_barnacleOf_0 : decode cX9_barnacleOf 0 = .ok (.aload_n 0, 1) := by decide +kernel
theorem dX9_barnacleOf_1 : decode cX9_barnacleOf 1 = .ok (.iload_n 1, 1) := by decide +kernel
theorem dX9_barnacleOf_2 : decode cX9_barnacleOf 2 = .ok (.iconst 2, 1) := by decide +kernel
theorem dX9_barnacleOf_3 : decode cX9_barnacleOf 3 = .ok (.invokevirtual 218, 3) := by decide +kernel
theorem dX9_barnacleOf_6 : decode cX9_barnacleOf 6 = .ok (.ireturn, 1) := by decide +kernel
theorem dX9_priceOf_0 : decode cX9_priceOf 0 = .ok (.aload_n 0, 1) := by decide +kernel
theorem dX9_priceOf_1 : decode cX9_priceOf 1 = .ok (.iload_n 1, 1) := by decide +kernel
theorem dX9_priceOf_2 : decode cX9_priceOf 2 = .ok (.iconst 3, 1) := by decide +kernel
theorem dX9_priceOf_3 : decode cX9_priceOf 3 = .ok (.invokevirtual 218, 3) := by decide +kernel
theorem dX9_priceOf_6 : decode cX9_priceOf 6 = .ok (.ireturn, 1) := by decide +kernel
theorem dX9_tradeCount_0 : decode cX9_tradeCount 0 = .ok (.aload_n 0, 1) := by decide +kernel
theorem dX9_tradeCount_1 : decode cX9_tradeCount 1 = .ok (.bipush 8, 2) := by decide +kernel
theorem dX9_tradeCount_3 : decode cX9_tradeCount 3 = .ok (.invokevirtual 200, 3) := by decide +kernel
theorem dX9_tradeCount_6 : decode cX9_tradeCount 6 = .ok (.ireturn, 1) := by decide +kernel
theorem dX9_turnover_0 : decode cX9_turnover 0 = .ok (.aload_n 0, 1) := by decide +kernel
theorem dX9_turnover_1 : decode cX9_turnover 1 = .ok (.bipush 9, 2) := by decide +kernel
theorem dX9_turnover_3 : decode cX9_turnover 3 = .ok (.invokevirtual 200, 3) := by decide +kernel
theorem dX9_turnover_6 : decode cX9_turnover 6 = .ok (.ireturn, 1) := by decide +kernel
theorem dX9_exchangeCoins_0 : decode cX9_exchangeCoins 0 = .ok (.aload_n 0, 1) := by decide +kernel
theorem dX9_exchangeCoins_1 : decode cX9_exchangeCoins 1 = .ok (.bipush 10, 2) := by decide +kernel
theorem dX9_exchangeCoins_3 : decode cX9_exchangeCoins 3 = .ok (.invokevirtual 200, 3) := by decide +kernel
theorem dX9_exchangeCoins_6 : decode cX9_exchangeCoins 6 = .ok (.ireturn, 1) := by decide +kernel
theorem dX9_expiredCount_0 : decode cX9_expiredCount 0 = .ok (.aload_n 0, 1) := by decide +kernel
theorem dX9_expiredCount_1 : decode cX9_expiredCount 1 = .ok (.bipush 11, 2) := by decide +kernel
theorem dX9_expiredCount_3 : decode cX9_expiredCount 3 = .ok (.invokevirtual 200, 3) := by decide +kernel
theorem dX9_expiredCount_6 : decode cX9_expiredCount 6 = .ok (.ireturn, 1) := by decide +kernel
theorem dX9_allCoins_0 : decode cX9_allCoins 0 = .ok (.aload_n 0, 1) := by decide +kernel
theorem dX9_allCoins_1 : decode cX9_allCoins 1 = .ok (.iconst 0, 1) := by decide +kernel
theorem dX9_allCoins_2 : decode cX9_allCoins 2 = .ok (.putfield 38, 3) := by decide +kernel
theorem dX9_allCoins_5 : decode cX9_allCoins 5 = .ok (.aload_n 0, 1) := by decide +kernel
theorem dX9_allCoins_6 : decode cX9_allCoins 6 = .ok (.getfield 9, 3) := by decide +kernel
theorem dX9_allCoins_9 : decode cX9_allCoins 9 = .ok (.bipush 10, 2) := by decide +kernel
theorem dX9_allCoins_11 : decode cX9_allCoins 11 = .ok (.iaload, 1) := by decide +kernel
theorem dX9_allCoins_12 : decode cX9_allCoins 12 = .ok (.istore_n 1, 1) := by decide +kernel
theorem dX9_allCoins_13 : decode cX9_allCoins 13 = .ok (.iconst 0, 1) := by decide +kernel
theorem dX9_allCoins_14 : decode cX9_allCoins 14 = .ok (.istore_n 2, 1) := by decide +kernel
theorem dX9_allCoins_15 : decode cX9_allCoins 15 = .ok (.iload_n 2, 1) := by decide +kernel
theorem dX9_allCoins_16 : decode cX9_allCoins 16 = .ok (.aload_n 0, 1) := by decide +kernel
theorem dX9_allCoins_17 : decode cX9_allCoins 17 = .ok (.getfield 9, 3) := by decide +kernel
theorem dX9_allCoins_20 : decode cX9_allCoins 20 = .ok (.iconst 0, 1) := by decide +kernel
theorem dX9_allCoins_21 : decode cX9_allCoins 21 = .ok (.iaload, 1) := by decide +kernel
theorem dX9_allCoins_22 : decode cX9_allCoins 22 = .ok (.if_icmp .ge 21, 3) := by decide +kernel
theorem dX9_allCoins_25 : decode cX9_allCoins 25 = .ok (.iload_n 1, 1) := by decide +kernel
theorem dX9_allCoins_26 : decode cX9_allCoins 26 = .ok (.aload_n 0, 1) := by decide +kernel
theorem dX9_allCoins_27 : decode cX9_allCoins 27 = .ok (.getfield 9, 3) := by decide +kernel
theorem dX9_allCoins_30 : decode cX9_allCoins 30 = .ok (.iload_n 2, 1) := by decide +kernel
theorem dX9_allCoins_31 : decode cX9_allCoins 31 = .ok (.invokestatic 67, 3) := by decide +kernel
theorem dX9_allCoins_34 : decode cX9_allCoins 34 = .ok (.iaload, 1) := by decide +kernel
theorem dX9_allCoins_35 : decode cX9_allCoins 35 = .ok (.iadd, 1) := by decide +kernel
theorem dX9_allCoins_36 : decode cX9_allCoins 36 = .ok (.istore_n 1, 1) := by decide +kernel
theorem dX9_allCoins_37 : decode cX9_allCoins 37 = .ok (.iinc 2 1, 3) := by decide +kernel
theorem dX9_allCoins_40 : decode cX9_allCoins 40 = .ok (.goto (-25), 3) := by decide +kernel
theorem dX9_allCoins_43 : decode cX9_allCoins 43 = .ok (.iload_n 1, 1) := by decide +kernel
theorem dX9_allCoins_44 : decode cX9_allCoins 44 = .ok (.ireturn, 1) := by decide +kernel
theorem dX9_allCoinsGiven_0 : decode cX9_allCoinsGiven 0 = .ok (.aload_n 0, 1) := by decide +kernel
theorem dX9_allCoinsGiven_1 : decode cX9_allCoinsGiven 1 = .ok (.bipush 12, 2) := by decide +kernel
theorem dX9_allCoinsGiven_3 : decode cX9_allCoinsGiven 3 = .ok (.invokevirtual 200, 3) := by decide +kernel
theorem dX9_allCoinsGiven_6 : decode cX9_allCoinsGiven 6 = .ok (.ireturn, 1) := by decide +kernel
theorem dX9_wealth_0 : decode cX9_wealth 0 = .ok (.aload_n 0, 1) := by decide +kernel
theorem dX9_wealth_1 : decode cX9_wealth 1 = .ok (.getfield 9, 3) := by decide +kernel
theorem dX9_wealth_4 : decode cX9_wealth 4 = .ok (.iload_n 1, 1) := by decide +kernel
theorem dX9_wealth_5 : decode cX9_wealth 5 = .ok (.invokestatic 67, 3) := by decide +kernel
theorem dX9_wealth_8 : decode cX9_wealth 8 = .ok (.iaload, 1) := by decide +kernel
theorem dX9_wealth_9 : decode cX9_wealth 9 = .ok (.istore_n 2, 1) := by decide +kernel
theorem dX9_wealth_10 : decode cX9_wealth 10 = .ok (.iconst 0, 1) := by decide +kernel
theorem dX9_wealth_11 : decode cX9_wealth 11 = .ok (.istore_n 3, 1) := by decide +kernel
theorem dX9_wealth_12 : decode cX9_wealth 12 = .ok (.iload_n 3, 1) := by decide +kernel
theorem dX9_wealth_13 : decode cX9_wealth 13 = .ok (.aload_n 0, 1) := by decide +kernel
theorem dX9_wealth_14 : decode cX9_wealth 14 = .ok (.getfield 9, 3) := by decide +kernel
theorem dX9_wealth_17 : decode cX9_wealth 17 = .ok (.iconst 1, 1) := by decide +kernel
theorem dX9_wealth_18 : decode cX9_wealth 18 = .ok (.iaload, 1) := by decide +kernel
theorem dX9_wealth_19 : decode cX9_wealth 19 = .ok (.if_icmp .ge 34, 3) := by decide +kernel
theorem dX9_wealth_22 : decode cX9_wealth 22 = .ok (.iload_n 2, 1) := by decide +kernel
theorem dX9_wealth_23 : decode cX9_wealth 23 = .ok (.aload_n 0, 1) := by decide +kernel
theorem dX9_wealth_24 : decode cX9_wealth 24 = .ok (.getfield 9, 3) := by decide +kernel
theorem dX9_wealth_27 : decode cX9_wealth 27 = .ok (.iload_n 3, 1) := by decide +kernel
theorem dX9_wealth_28 : decode cX9_wealth 28 = .ok (.invokestatic 70, 3) := by decide +kernel
theorem dX9_wealth_31 : decode cX9_wealth 31 = .ok (.iaload, 1) := by decide +kernel
theorem dX9_wealth_32 : decode cX9_wealth 32 = .ok (.iload_n 1, 1) := by decide +kernel
theorem dX9_wealth_33 : decode cX9_wealth 33 = .ok (.if_icmp .ne 11, 3) := by decide +kernel
theorem dX9_wealth_36 : decode cX9_wealth 36 = .ok (.aload_n 0, 1) := by decide +kernel
theorem dX9_wealth_37 : decode cX9_wealth 37 = .ok (.iload_n 3, 1) := by decide +kernel
theorem dX9_wealth_38 : decode cX9_wealth 38 = .ok (.invokevirtual 85, 3) := by decide +kernel
theorem dX9_wealth_41 : decode cX9_wealth 41 = .ok (.goto 4, 3) := by decide +kernel
theorem dX9_wealth_44 : decode cX9_wealth 44 = .ok (.iconst 0, 1) := by decide +kernel
theorem dX9_wealth_45 : decode cX9_wealth 45 = .ok (.iadd, 1) := by decide +kernel
theorem dX9_wealth_46 : decode cX9_wealth 46 = .ok (.istore_n 2, 1) := by decide +kernel
theorem dX9_wealth_47 : decode cX9_wealth 47 = .ok (.iinc 3 1, 3) := by decide +kernel
theorem dX9_wealth_50 : decode cX9_wealth 50 = .ok (.goto (-38), 3) := by decide +kernel
theorem dX9_wealth_53 : decode cX9_wealth 53 = .ok (.iload_n 2, 1) := by decide +kernel
theorem dX9_wealth_54 : decode cX9_wealth 54 = .ok (.ireturn, 1) := by decide +kernel
theorem dX9_shipByWealth_0 : decode cX9_shipByWealth 0 = .ok (.aload_n 0, 1) := by decide +kernel
theorem dX9_shipByWealth_1 : decode cX9_shipByWealth 1 = .ok (.iconst 0, 1) := by decide +kernel
theorem dX9_shipByWealth_2 : decode cX9_shipByWealth 2 = .ok (.putfield 38, 3) := by decide +kernel
theorem dX9_shipByWealth_5 : decode cX9_shipByWealth 5 = .ok (.iconst 0, 1) := by decide +kernel
theorem dX9_shipByWealth_6 : decode cX9_shipByWealth 6 = .ok (.istore_n 2, 1) := by decide +kernel
theorem dX9_shipByWealth_7 : decode cX9_shipByWealth 7 = .ok (.iload_n 2, 1) := by decide +kernel
theorem dX9_shipByWealth_8 : decode cX9_shipByWealth 8 = .ok (.aload_n 0, 1) := by decide +kernel
theorem dX9_shipByWealth_9 : decode cX9_shipByWealth 9 = .ok (.getfield 9, 3) := by decide +kernel
theorem dX9_shipByWealth_12 : decode cX9_shipByWealth 12 = .ok (.iconst 0, 1) := by decide +kernel
theorem dX9_shipByWealth_13 : decode cX9_shipByWealth 13 = .ok (.iaload, 1) := by decide +kernel
theorem dX9_shipByWealth_14 : decode cX9_shipByWealth 14 = .ok (.if_icmp .ge 100, 3) := by decide +kernel
theorem dX9_shipByWealth_17 : decode cX9_shipByWealth 17 = .ok (.iconst 0, 1) := by decide +kernel
theorem dX9_shipByWealth_18 : decode cX9_shipByWealth 18 = .ok (.istore_n 3, 1) := by decide +kernel
theorem dX9_shipByWealth_19 : decode cX9_shipByWealth 19 = .ok (.iconst 0, 1) := by decide +kernel
theorem dX9_shipByWealth_20 : decode cX9_shipByWealth 20 = .ok (.istore 4, 2) := by decide +kernel
theorem dX9_shipByWealth_22 : decode cX9_shipByWealth 22 = .ok (.iload 4, 2) := by decide +kernel
theorem dX9_shipByWealth_24 : decode cX9_shipByWealth 24 = .ok (.aload_n 0, 1) := by decide +kernel
theorem dX9_shipByWealth_25 : decode cX9_shipByWealth 25 = .ok (.getfield 9, 3) := by decide +kernel
theorem dX9_shipByWealth_28 : decode cX9_shipByWealth 28 = .ok (.iconst 0, 1) := by decide +kernel
theorem dX9_shipByWealth_29 : decode cX9_shipByWealth 29 = .ok (.iaload, 1) := by decide +kernel
theorem dX9_shipByWealth_30 : decode cX9_shipByWealth 30 = .ok (.if_icmp .ge 71, 3) := by decide +kernel
theorem dX9_shipByWealth_33 : decode cX9_shipByWealth 33 = .ok (.aload_n 0, 1) := by decide +kernel
theorem dX9_shipByWealth_34 : decode cX9_shipByWealth 34 = .ok (.iload 4, 2) := by decide +kernel
theorem dX9_shipByWealth_36 : decode cX9_shipByWealth 36 = .ok (.invokevirtual 221, 3) := by decide +kernel
theorem dX9_shipByWealth_39 : decode cX9_shipByWealth 39 = .ok (.aload_n 0, 1) := by decide +kernel
theorem dX9_shipByWealth_40 : decode cX9_shipByWealth 40 = .ok (.iload_n 2, 1) := by decide +kernel
theorem dX9_shipByWealth_41 : decode cX9_shipByWealth 41 = .ok (.invokevirtual 221, 3) := by decide +kernel
theorem dX9_shipByWealth_44 : decode cX9_shipByWealth 44 = .ok (.isub, 1) := by decide +kernel
theorem dX9_shipByWealth_45 : decode cX9_shipByWealth 45 = .ok (.istore 5, 2) := by decide +kernel
theorem dX9_shipByWealth_47 : decode cX9_shipByWealth 47 = .ok (.iload 5, 2) := by decide +kernel
theorem dX9_shipByWealth_49 : decode cX9_shipByWealth 49 = .ok (.ifCond .ne 18, 3) := by decide +kernel
theorem dX9_shipByWealth_52 : decode cX9_shipByWealth 52 = .ok (.aload_n 0, 1) := by decide +kernel
theorem dX9_shipByWealth_53 : decode cX9_shipByWealth 53 = .ok (.iload 4, 2) := by decide +kernel
theorem dX9_shipByWealth_55 : decode cX9_shipByWealth 55 = .ok (.invokevirtual 79, 3) := by decide +kernel
theorem dX9_shipByWealth_58 : decode cX9_shipByWealth 58 = .ok (.aload_n 0, 1) := by decide +kernel
theorem dX9_shipByWealth_59 : decode cX9_shipByWealth 59 = .ok (.iload_n 2, 1) := by decide +kernel
theorem dX9_shipByWealth_60 : decode cX9_shipByWealth 60 = .ok (.invokevirtual 79, 3) := by decide +kernel
theorem dX9_shipByWealth_63 : decode cX9_shipByWealth 63 = .ok (.isub, 1) := by decide +kernel
theorem dX9_shipByWealth_64 : decode cX9_shipByWealth 64 = .ok (.goto 5, 3) := by decide +kernel
theorem dX9_shipByWealth_67 : decode cX9_shipByWealth 67 = .ok (.iload 5, 2) := by decide +kernel
theorem dX9_shipByWealth_69 : decode cX9_shipByWealth 69 = .ok (.istore 5, 2) := by decide +kernel
theorem dX9_shipByWealth_71 : decode cX9_shipByWealth 71 = .ok (.iload_n 3, 1) := by decide +kernel
theorem dX9_shipByWealth_72 : decode cX9_shipByWealth 72 = .ok (.iload 5, 2) := by decide +kernel
theorem dX9_shipByWealth_74 : decode cX9_shipByWealth 74 = .ok (.ifCond .gt 14, 3) := by decide +kernel
theorem dX9_shipByWealth_77 : decode cX9_shipByWealth 77 = .ok (.iload 5, 2) := by decide +kernel
theorem dX9_shipByWealth_79 : decode cX9_shipByWealth 79 = .ok (.ifCond .ne 13, 3) := by decide +kernel
theorem dX9_shipByWealth_82 : decode cX9_shipByWealth 82 = .ok (.iload 4, 2) := by decide +kernel
theorem dX9_shipByWealth_84 : decode cX9_shipByWealth 84 = .ok (.iload_n 2, 1) := by decide +kernel
theorem dX9_shipByWealth_85 : decode cX9_shipByWealth 85 = .ok (.if_icmp .ge 7, 3) := by decide +kernel
theorem dX9_shipByWealth_88 : decode cX9_shipByWealth 88 = .ok (.iconst 1, 1) := by decide +kernel
theorem dX9_shipByWealth_89 : decode cX9_shipByWealth 89 = .ok (.goto 4, 3) := by decide +kernel
theorem dX9_shipByWealth_92 : decode cX9_shipByWealth 92 = .ok (.iconst 0, 1) := by decide +kernel
theorem dX9_shipByWealth_93 : decode cX9_shipByWealth 93 = .ok (.iadd, 1) := by decide +kernel
theorem dX9_shipByWealth_94 : decode cX9_shipByWealth 94 = .ok (.istore_n 3, 1) := by decide +kernel
theorem dX9_shipByWealth_95 : decode cX9_shipByWealth 95 = .ok (.iinc 4 1, 3) := by decide +kernel
theorem dX9_shipByWealth_98 : decode cX9_shipByWealth 98 = .ok (.goto (-76), 3) := by decide +kernel
theorem dX9_shipByWealth_101 : decode cX9_shipByWealth 101 = .ok (.iload_n 3, 1) := by decide +kernel
theorem dX9_shipByWealth_102 : decode cX9_shipByWealth 102 = .ok (.iload_n 1, 1) := by decide +kernel
theorem dX9_shipByWealth_103 : decode cX9_shipByWealth 103 = .ok (.if_icmp .ne 5, 3) := by decide +kernel
theorem dX9_shipByWealth_106 : decode cX9_shipByWealth 106 = .ok (.iload_n 2, 1) := by decide +kernel
theorem dX9_shipByWealth_107 : decode cX9_shipByWealth 107 = .ok (.ireturn, 1) := by decide +kernel
theorem dX9_shipByWealth_108 : decode cX9_shipByWealth 108 = .ok (.iinc 2 1, 3) := by decide +kernel
theorem dX9_shipByWealth_111 : decode cX9_shipByWealth 111 = .ok (.goto (-104), 3) := by decide +kernel
theorem dX9_shipByWealth_114 : decode cX9_shipByWealth 114 = .ok (.aload_n 0, 1) := by decide +kernel
theorem dX9_shipByWealth_115 : decode cX9_shipByWealth 115 = .ok (.iconst 1, 1) := by decide +kernel
theorem dX9_shipByWealth_116 : decode cX9_shipByWealth 116 = .ok (.invokevirtual 47, 3) := by decide +kernel
theorem dX9_shipByWealth_119 : decode cX9_shipByWealth 119 = .ok (.ireturn, 1) := by decide +kernel
theorem dX9_meanPrice_0 : decode cX9_meanPrice 0 = .ok (.aload_n 0, 1) := by decide +kernel
theorem dX9_meanPrice_1 : decode cX9_meanPrice 1 = .ok (.iconst 0, 1) := by decide +kernel
theorem dX9_meanPrice_2 : decode cX9_meanPrice 2 = .ok (.putfield 38, 3) := by decide +kernel
theorem dX9_meanPrice_5 : decode cX9_meanPrice 5 = .ok (.aload_n 0, 1) := by decide +kernel
theorem dX9_meanPrice_6 : decode cX9_meanPrice 6 = .ok (.getfield 9, 3) := by decide +kernel
theorem dX9_meanPrice_9 : decode cX9_meanPrice 9 = .ok (.bipush 8, 2) := by decide +kernel
theorem dX9_meanPrice_11 : decode cX9_meanPrice 11 = .ok (.iaload, 1) := by decide +kernel
theorem dX9_meanPrice_12 : decode cX9_meanPrice 12 = .ok (.ifCond .ne 11, 3) := by decide +kernel
theorem dX9_meanPrice_15 : decode cX9_meanPrice 15 = .ok (.aload_n 0, 1) := by decide +kernel
theorem dX9_meanPrice_16 : decode cX9_meanPrice 16 = .ok (.iconst 1, 1) := by decide +kernel
theorem dX9_meanPrice_17 : decode cX9_meanPrice 17 = .ok (.invokevirtual 47, 3) := by decide +kernel
theorem dX9_meanPrice_20 : decode cX9_meanPrice 20 = .ok (.pop, 1) := by decide +kernel
theorem dX9_meanPrice_21 : decode cX9_meanPrice 21 = .ok (.dconst 0, 1) := by decide +kernel
theorem dX9_meanPrice_22 : decode cX9_meanPrice 22 = .ok (.dreturn, 1) := by decide +kernel
theorem dX9_meanPrice_23 : decode cX9_meanPrice 23 = .ok (.aload_n 0, 1) := by decide +kernel
theorem dX9_meanPrice_24 : decode cX9_meanPrice 24 = .ok (.getfield 9, 3) := by decide +kernel
theorem dX9_meanPrice_27 : decode cX9_meanPrice 27 = .ok (.bipush 9, 2) := by decide +kernel
theorem dX9_meanPrice_29 : decode cX9_meanPrice 29 = .ok (.iaload, 1) := by decide +kernel
theorem dX9_meanPrice_30 : decode cX9_meanPrice 30 = .ok (.i2d, 1) := by decide +kernel
theorem dX9_meanPrice_31 : decode cX9_meanPrice 31 = .ok (.aload_n 0, 1) := by decide +kernel
theorem dX9_meanPrice_32 : decode cX9_meanPrice 32 = .ok (.getfield 9, 3) := by decide +kernel
theorem dX9_meanPrice_35 : decode cX9_meanPrice 35 = .ok (.bipush 8, 2) := by decide +kernel
theorem dX9_meanPrice_37 : decode cX9_meanPrice 37 = .ok (.iaload, 1) := by decide +kernel
theorem dX9_meanPrice_38 : decode cX9_meanPrice 38 = .ok (.i2d, 1) := by decide +kernel
theorem dX9_meanPrice_39 : decode cX9_meanPrice 39 = .ok (.ddiv, 1) := by decide +kernel
theorem dX9_meanPrice_40 : decode cX9_meanPrice 40 = .ok (.dreturn, 1) := by decide +kernel
theorem dX9_offeredShare_0 : decode cX9_offeredShare 0 = .ok (.aload_n 0, 1) := by decide +kernel
theorem dX9_offeredShare_1 : decode cX9_offeredShare 1 = .ok (.iconst 0, 1) := by decide +kernel
theorem dX9_offeredShare_2 : decode cX9_offeredShare 2 = .ok (.putfield 38, 3) := by decide +kernel
theorem dX9_offeredShare_5 : decode cX9_offeredShare 5 = .ok (.aload_n 0, 1) := by decide +kernel
theorem dX9_offeredShare_6 : decode cX9_offeredShare 6 = .ok (.getfield 9, 3) := by decide +kernel
theorem dX9_offeredShare_9 : decode cX9_offeredShare 9 = .ok (.iconst 1, 1) := by decide +kernel
theorem dX9_offeredShare_10 : decode cX9_offeredShare 10 = .ok (.iaload, 1) := by decide +kernel
theorem dX9_offeredShare_11 : decode cX9_offeredShare 11 = .ok (.ifCond .ne 11, 3) := by decide +kernel
theorem dX9_offeredShare_14 : decode cX9_offeredShare 14 = .ok (.aload_n 0, 1) := by decide +kernel
theorem dX9_offeredShare_15 : decode cX9_offeredShare 15 = .ok (.iconst 1, 1) := by decide +kernel
theorem dX9_offeredShare_16 : decode cX9_offeredShare 16 = .ok (.invokevirtual 47, 3) := by decide +kernel
theorem dX9_offeredShare_19 : decode cX9_offeredShare 19 = .ok (.pop, 1) := by decide +kernel
theorem dX9_offeredShare_20 : decode cX9_offeredShare 20 = .ok (.fconst 0, 1) := by decide +kernel
theorem dX9_offeredShare_21 : decode cX9_offeredShare 21 = .ok (.freturn, 1) := by decide +kernel
theorem dX9_offeredShare_22 : decode cX9_offeredShare 22 = .ok (.aload_n 0, 1) := by decide +kernel
theorem dX9_offeredShare_23 : decode cX9_offeredShare 23 = .ok (.getfield 9, 3) := by decide +kernel
theorem dX9_offeredShare_26 : decode cX9_offeredShare 26 = .ok (.iconst 3, 1) := by decide +kernel
theorem dX9_offeredShare_27 : decode cX9_offeredShare 27 = .ok (.iaload, 1) := by decide +kernel
theorem dX9_offeredShare_28 : decode cX9_offeredShare 28 = .ok (.i2f, 1) := by decide +kernel
theorem dX9_offeredShare_29 : decode cX9_offeredShare 29 = .ok (.aload_n 0, 1) := by decide +kernel
theorem dX9_offeredShare_30 : decode cX9_offeredShare 30 = .ok (.getfield 9, 3) := by decide +kernel
theorem dX9_offeredShare_33 : decode cX9_offeredShare 33 = .ok (.iconst 1, 1) := by decide +kernel
theorem dX9_offeredShare_34 : decode cX9_offeredShare 34 = .ok (.iaload, 1) := by decide +kernel
theorem dX9_offeredShare_35 : decode cX9_offeredShare 35 = .ok (.i2f, 1) := by decide +kernel
theorem dX9_offeredShare_36 : decode cX9_offeredShare 36 = .ok (.fdiv, 1) := by decide +kernel
theorem dX9_offeredShare_37 : decode cX9_offeredShare 37 = .ok (.freturn, 1) := by decide +kernel
theorem dX9_isConsistent_0 : decode cX9_isConsistent 0 = .ok (.aload_n 0, 1) := by decide +kernel
theorem dX9_isConsistent_1 : decode cX9_isConsistent 1 = .ok (.iconst 0, 1) := by decide +kernel
theorem dX9_isConsistent_2 : decode cX9_isConsistent 2 = .ok (.putfield 38, 3) := by decide +kernel
theorem dX9_isConsistent_5 : decode cX9_isConsistent 5 = .ok (.iconst 1, 1) := by decide +kernel
theorem dX9_isConsistent_6 : decode cX9_isConsistent 6 = .ok (.ireturn, 1) := by decide +kernel
theorem dX9_sign_0 : decode cX9_sign 0 = .ok (.aload_n 0, 1) := by decide +kernel
theorem dX9_sign_1 : decode cX9_sign 1 = .ok (.getfield 32, 3) := by decide +kernel
theorem dX9_sign_4 : decode cX9_sign 4 = .ok (.aload_n 0, 1) := by decide +kernel
theorem dX9_sign_5 : decode cX9_sign 5 = .ok (.getfield 224, 3) := by decide +kernel
theorem dX9_sign_8 : decode cX9_sign 8 = .ok (.iload_n 1, 1) := by decide +kernel
theorem dX9_sign_9 : decode cX9_sign 9 = .ok (.iastore, 1) := by decide +kernel
theorem dX9_sign_10 : decode cX9_sign 10 = .ok (.aload_n 0, 1) := by decide +kernel
theorem dX9_sign_11 : decode cX9_sign 11 = .ok (.dup, 1) := by decide +kernel
theorem dX9_sign_12 : decode cX9_sign 12 = .ok (.getfield 224, 3) := by decide +kernel
theorem dX9_sign_15 : decode cX9_sign 15 = .ok (.iconst 1, 1) := by decide +kernel
theorem dX9_sign_16 : decode cX9_sign 16 = .ok (.iadd, 1) := by decide +kernel
theorem dX9_sign_17 : decode cX9_sign 17 = .ok (.putfield 224, 3) := by decide +kernel
theorem dX9_sign_20 : decode cX9_sign 20 = .ok (.return_, 1) := by decide +kernel
theorem dX9_writesNumber_0 : decode cX9_writesNumber 0 = .ok (.iconst 1, 1) := by decide +kernel
theorem dX9_writesNumber_1 : decode cX9_writesNumber 1 = .ok (.istore_n 2, 1) := by decide +kernel
theorem dX9_writesNumber_2 : decode cX9_writesNumber 2 = .ok (.iload_n 1, 1) := by decide +kernel
theorem dX9_writesNumber_3 : decode cX9_writesNumber 3 = .ok (.iload_n 2, 1) := by decide +kernel
theorem dX9_writesNumber_4 : decode cX9_writesNumber 4 = .ok (.idiv, 1) := by decide +kernel
theorem dX9_writesNumber_5 : decode cX9_writesNumber 5 = .ok (.bipush 9, 2) := by decide +kernel
theorem dX9_writesNumber_7 : decode cX9_writesNumber 7 = .ok (.if_icmp .le 11, 3) := by decide +kernel
theorem dX9_writesNumber_10 : decode cX9_writesNumber 10 = .ok (.iload_n 2, 1) := by decide +kernel
theorem dX9_writesNumber_11 : decode cX9_writesNumber 11 = .ok (.bipush 10, 2) := by decide +kernel
theorem dX9_writesNumber_13 : decode cX9_writesNumber 13 = .ok (.imul, 1) := by decide +kernel
theorem dX9_writesNumber_14 : decode cX9_writesNumber 14 = .ok (.istore_n 2, 1) := by decide +kernel
theorem dX9_writesNumber_15 : decode cX9_writesNumber 15 = .ok (.goto (-13), 3) := by decide +kernel
theorem dX9_writesNumber_18 : decode cX9_writesNumber 18 = .ok (.iload_n 2, 1) := by decide +kernel
theorem dX9_writesNumber_19 : decode cX9_writesNumber 19 = .ok (.ifCond .le 24, 3) := by decide +kernel
theorem dX9_writesNumber_22 : decode cX9_writesNumber 22 = .ok (.aload_n 0, 1) := by decide +kernel
theorem dX9_writesNumber_23 : decode cX9_writesNumber 23 = .ok (.bipush 48, 2) := by decide +kernel
theorem dX9_writesNumber_25 : decode cX9_writesNumber 25 = .ok (.iload_n 1, 1) := by decide +kernel
theorem dX9_writesNumber_26 : decode cX9_writesNumber 26 = .ok (.iload_n 2, 1) := by decide +kernel
theorem dX9_writesNumber_27 : decode cX9_writesNumber 27 = .ok (.idiv, 1) := by decide +kernel
theorem dX9_writesNumber_28 : decode cX9_writesNumber 28 = .ok (.bipush 10, 2) := by decide +kernel
theorem dX9_writesNumber_30 : decode cX9_writesNumber 30 = .ok (.irem, 1) := by decide +kernel
theorem dX9_writesNumber_31 : decode cX9_writesNumber 31 = .ok (.iadd, 1) := by decide +kernel
theorem dX9_writesNumber_32 : decode cX9_writesNumber 32 = .ok (.invokevirtual 227, 3) := by decide +kernel
theorem dX9_writesNumber_35 : decode cX9_writesNumber 35 = .ok (.iload_n 2, 1) := by decide +kernel
theorem dX9_writesNumber_36 : decode cX9_writesNumber 36 = .ok (.bipush 10, 2) := by decide +kernel
theorem dX9_writesNumber_38 : decode cX9_writesNumber 38 = .ok (.idiv, 1) := by decide +kernel
theorem dX9_writesNumber_39 : decode cX9_writesNumber 39 = .ok (.istore_n 2, 1) := by decide +kernel
theorem dX9_writesNumber_40 : decode cX9_writesNumber 40 = .ok (.goto (-22), 3) := by decide +kernel
theorem dX9_writesNumber_43 : decode cX9_writesNumber 43 = .ok (.return_, 1) := by decide +kernel
theorem dX9_writeShip_0 : decode cX9_writeShip 0 = .ok (.aload_n 0, 1) := by decide +kernel
theorem dX9_writeShip_1 : decode cX9_writeShip 1 = .ok (.iconst 0, 1) := by decide +kernel
theorem dX9_writeShip_2 : decode cX9_writeShip 2 = .ok (.putfield 38, 3) := by decide +kernel
theorem dX9_writeShip_5 : decode cX9_writeShip 5 = .ok (.aload_n 0, 1) := by decide +kernel
theorem dX9_writeShip_6 : decode cX9_writeShip 6 = .ok (.iload_n 1, 1) := by decide +kernel
theorem dX9_writeShip_7 : decode cX9_writeShip 7 = .ok (.invokevirtual 120, 3) := by decide +kernel
theorem dX9_writeShip_10 : decode cX9_writeShip 10 = .ok (.ifCond .ne 9, 3) := by decide +kernel
theorem dX9_writeShip_13 : decode cX9_writeShip 13 = .ok (.aload_n 0, 1) := by decide +kernel
theorem dX9_writeShip_14 : decode cX9_writeShip 14 = .ok (.iconst 1, 1) := by decide +kernel
theorem dX9_writeShip_15 : decode cX9_writeShip 15 = .ok (.invokevirtual 47, 3) := by decide +kernel
theorem dX9_writeShip_18 : decode cX9_writeShip 18 = .ok (.ireturn, 1) := by decide +kernel
theorem dX9_writeShip_19 : decode cX9_writeShip 19 = .ok (.aload_n 0, 1) := by decide +kernel
theorem dX9_writeShip_20 : decode cX9_writeShip 20 = .ok (.iconst 0, 1) := by decide +kernel
theorem dX9_writeShip_21 : decode cX9_writeShip 21 = .ok (.putfield 224, 3) := by decide +kernel
theorem dX9_writeShip_24 : decode cX9_writeShip 24 = .ok (.aload_n 0, 1) := by decide +kernel
theorem dX9_writeShip_25 : decode cX9_writeShip 25 = .ok (.iload_n 1, 1) := by decide +kernel
theorem dX9_writeShip_26 : decode cX9_writeShip 26 = .ok (.invokevirtual 230, 3) := by decide +kernel
theorem dX9_writeShip_29 : decode cX9_writeShip 29 = .ok (.aload_n 0, 1) := by decide +kernel
theorem dX9_writeShip_30 : decode cX9_writeShip 30 = .ok (.bipush 36, 2) := by decide +kernel
theorem dX9_writeShip_32 : decode cX9_writeShip 32 = .ok (.invokevirtual 227, 3) := by decide +kernel
theorem dX9_writeShip_35 : decode cX9_writeShip 35 = .ok (.aload_n 0, 1) := by decide +kernel
theorem dX9_writeShip_36 : decode cX9_writeShip 36 = .ok (.aload_n 0, 1) := by decide +kernel
theorem dX9_writeShip_37 : decode cX9_writeShip 37 = .ok (.getfield 9, 3) := by decide +kernel
theorem dX9_writeShip_40 : decode cX9_writeShip 40 = .ok (.iload_n 1, 1) := by decide +kernel
theorem dX9_writeShip_41 : decode cX9_writeShip 41 = .ok (.invokestatic 67, 3) := by decide +kernel
theorem dX9_writeShip_44 : decode cX9_writeShip 44 = .ok (.iaload, 1) := by decide +kernel
theorem dX9_writeShip_45 : decode cX9_writeShip 45 = .ok (.invokevirtual 230, 3) := by decide +kernel
theorem dX9_writeShip_48 : decode cX9_writeShip 48 = .ok (.aload_n 0, 1) := by decide +kernel
theorem dX9_writeShip_49 : decode cX9_writeShip 49 = .ok (.bipush 40, 2) := by decide +kernel
theorem dX9_writeShip_51 : decode cX9_writeShip 51 = .ok (.invokevirtual 227, 3) := by decide +kernel
theorem dX9_writeShip_54 : decode cX9_writeShip 54 = .ok (.aload_n 0, 1) := by decide +kernel
theorem dX9_writeShip_55 : decode cX9_writeShip 55 = .ok (.aload_n 0, 1) := by decide +kernel
theorem dX9_writeShip_56 : decode cX9_writeShip 56 = .ok (.iload_n 1, 1) := by decide +kernel
theorem dX9_writeShip_57 : decode cX9_writeShip 57 = .ok (.invokevirtual 79, 3) := by decide +kernel
theorem dX9_writeShip_60 : decode cX9_writeShip 60 = .ok (.invokevirtual 230, 3) := by decide +kernel
theorem dX9_writeShip_63 : decode cX9_writeShip 63 = .ok (.aload_n 0, 1) := by decide +kernel
theorem dX9_writeShip_64 : decode cX9_writeShip 64 = .ok (.bipush 47, 2) := by decide +kernel
theorem dX9_writeShip_66 : decode cX9_writeShip 66 = .ok (.invokevirtual 227, 3) := by decide +kernel
theorem dX9_writeShip_69 : decode cX9_writeShip 69 = .ok (.aload_n 0, 1) := by decide +kernel
theorem dX9_writeShip_70 : decode cX9_writeShip 70 = .ok (.aload_n 0, 1) := by decide +kernel
theorem dX9_writeShip_71 : decode cX9_writeShip 71 = .ok (.iload_n 1, 1) := by decide +kernel
theorem dX9_writeShip_72 : decode cX9_writeShip 72 = .ok (.invokevirtual 76, 3) := by decide +kernel
theorem dX9_writeShip_75 : decode cX9_writeShip 75 = .ok (.invokevirtual 230, 3) := by decide +kernel
theorem dX9_writeShip_78 : decode cX9_writeShip 78 = .ok (.aload_n 0, 1) := by decide +kernel
theorem dX9_writeShip_79 : decode cX9_writeShip 79 = .ok (.bipush 41, 2) := by decide +kernel
theorem dX9_writeShip_81 : decode cX9_writeShip 81 = .ok (.invokevirtual 227, 3) := by decide +kernel
theorem dX9_writeShip_84 : decode cX9_writeShip 84 = .ok (.iconst 0, 1) := by decide +kernel
theorem dX9_writeShip_85 : decode cX9_writeShip 85 = .ok (.istore_n 2, 1) := by decide +kernel
theorem dX9_writeShip_86 : decode cX9_writeShip 86 = .ok (.iload_n 2, 1) := by decide +kernel
theorem dX9_writeShip_87 : decode cX9_writeShip 87 = .ok (.aload_n 0, 1) := by decide +kernel
theorem dX9_writeShip_88 : decode cX9_writeShip 88 = .ok (.iload_n 1, 1) := by decide +kernel
theorem dX9_writeShip_89 : decode cX9_writeShip 89 = .ok (.invokevirtual 79, 3) := by decide +kernel
theorem dX9_writeShip_92 : decode cX9_writeShip 92 = .ok (.if_icmp .ge 57, 3) := by decide +kernel
theorem dX9_writeShip_95 : decode cX9_writeShip 95 = .ok (.aload_n 0, 1) := by decide +kernel
theorem dX9_writeShip_96 : decode cX9_writeShip 96 = .ok (.iload_n 1, 1) := by decide +kernel
theorem dX9_writeShip_97 : decode cX9_writeShip 97 = .ok (.iload_n 2, 1) := by decide +kernel
theorem dX9_writeShip_98 : decode cX9_writeShip 98 = .ok (.invokevirtual 203, 3) := by decide +kernel
theorem dX9_writeShip_101 : decode cX9_writeShip 101 = .ok (.istore_n 3, 1) := by decide +kernel
theorem dX9_writeShip_102 : decode cX9_writeShip 102 = .ok (.aload_n 0, 1) := by decide +kernel
theorem dX9_writeShip_103 : decode cX9_writeShip 103 = .ok (.bipush 32, 2) := by decide +kernel
theorem dX9_writeShip_105 : decode cX9_writeShip 105 = .ok (.invokevirtual 227, 3) := by decide +kernel
theorem dX9_writeShip_108 : decode cX9_writeShip 108 = .ok (.aload_n 0, 1) := by decide +kernel
theorem dX9_writeShip_109 : decode cX9_writeShip 109 = .ok (.iload_n 3, 1) := by decide +kernel
theorem dX9_writeShip_110 : decode cX9_writeShip 110 = .ok (.invokevirtual 230, 3) := by decide +kernel
theorem dX9_writeShip_113 : decode cX9_writeShip 113 = .ok (.aload_n 0, 1) := by decide +kernel
theorem dX9_writeShip_114 : decode cX9_writeShip 114 = .ok (.bipush 103, 2) := by decide +kernel
theorem dX9_writeShip_116 : decode cX9_writeShip 116 = .ok (.invokevirtual 227, 3) := by decide +kernel
theorem dX9_writeShip_119 : decode cX9_writeShip 119 = .ok (.aload_n 0, 1) := by decide +kernel
theorem dX9_writeShip_120 : decode cX9_writeShip 120 = .ok (.aload_n 0, 1) := by decide +kernel
theorem dX9_writeShip_121 : decode cX9_writeShip 121 = .ok (.iload_n 3, 1) := by decide +kernel
theorem dX9_writeShip_122 : decode cX9_writeShip 122 = .ok (.invokevirtual 85, 3) := by decide +kernel
theorem dX9_writeShip_125 : decode cX9_writeShip 125 = .ok (.invokevirtual 230, 3) := by decide +kernel
theorem dX9_writeShip_128 : decode cX9_writeShip 128 = .ok (.aload_n 0, 1) := by decide +kernel
theorem dX9_writeShip_129 : decode cX9_writeShip 129 = .ok (.iload_n 3, 1) := by decide +kernel
theorem dX9_writeShip_130 : decode cX9_writeShip 130 = .ok (.invokevirtual 147, 3) := by decide +kernel
theorem dX9_writeShip_133 : decode cX9_writeShip 133 = .ok (.iconst (-1), 1) := by decide +kernel
theorem dX9_writeShip_134 : decode cX9_writeShip 134 = .ok (.if_icmp .eq 9, 3) := by decide +kernel
theorem dX9_writeShip_137 : decode cX9_writeShip 137 = .ok (.aload_n 0, 1) := by decide +kernel
theorem dX9_writeShip_138 : decode cX9_writeShip 138 = .ok (.bipush 33, 2) := by decide +kernel
theorem dX9_writeShip_140 : decode cX9_writeShip 140 = .ok (.invokevirtual 227, 3) := by decide +kernel
theorem dX9_writeShip_143 : decode cX9_writeShip 143 = .ok (.iinc 2 1, 3) := by decide +kernel
theorem dX9_writeShip_146 : decode cX9_writeShip 146 = .ok (.goto (-60), 3) := by decide +kernel
theorem dX9_writeShip_149 : decode cX9_writeShip 149 = .ok (.aload_n 0, 1) := by decide +kernel
theorem dX9_writeShip_150 : decode cX9_writeShip 150 = .ok (.getfield 224, 3) := by decide +kernel
theorem dX9_writeShip_153 : decode cX9_writeShip 153 = .ok (.ireturn, 1) := by decide +kernel
theorem dX9_outputAt_0 : decode cX9_outputAt 0 = .ok (.aload_n 0, 1) := by decide +kernel
theorem dX9_outputAt_1 : decode cX9_outputAt 1 = .ok (.iconst 0, 1) := by decide +kernel
theorem dX9_outputAt_2 : decode cX9_outputAt 2 = .ok (.putfield 38, 3) := by decide +kernel
theorem dX9_outputAt_5 : decode cX9_outputAt 5 = .ok (.iload_n 1, 1) := by decide +kernel
theorem dX9_outputAt_6 : decode cX9_outputAt 6 = .ok (.i2l, 1) := by decide +kernel
theorem dX9_outputAt_7 : decode cX9_outputAt 7 = .ok (.lconst 0, 1) := by decide +kernel
theorem dX9_outputAt_8 : decode cX9_outputAt 8 = .ok (.aload_n 0, 1) := by decide +kernel
theorem dX9_outputAt_9 : decode cX9_outputAt 9 = .ok (.getfield 224, 3) := by decide +kernel
theorem dX9_outputAt_12 : decode cX9_outputAt 12 = .ok (.iconst 1, 1) := by decide +kernel
theorem dX9_outputAt_13 : decode cX9_outputAt 13 = .ok (.isub, 1) := by decide +kernel
theorem dX9_outputAt_14 : decode cX9_outputAt 14 = .ok (.i2l, 1) := by decide +kernel
theorem dX9_outputAt_15 : decode cX9_outputAt 15 = .ok (.invokestatic 63, 3) := by decide +kernel
theorem dX9_outputAt_18 : decode cX9_outputAt 18 = .ok (.ifCond .eq 13, 3) := by decide +kernel
theorem dX9_outputAt_21 : decode cX9_outputAt 21 = .ok (.aload_n 0, 1) := by decide +kernel
theorem dX9_outputAt_22 : decode cX9_outputAt 22 = .ok (.getfield 32, 3) := by decide +kernel
theorem dX9_outputAt_25 : decode cX9_outputAt 25 = .ok (.iload_n 1, 1) := by decide +kernel
theorem dX9_outputAt_26 : decode cX9_outputAt 26 = .ok (.iaload, 1) := by decide +kernel
theorem dX9_outputAt_27 : decode cX9_outputAt 27 = .ok (.i2c, 1) := by decide +kernel
theorem dX9_outputAt_28 : decode cX9_outputAt 28 = .ok (.goto 9, 3) := by decide +kernel
theorem dX9_outputAt_31 : decode cX9_outputAt 31 = .ok (.aload_n 0, 1) := by decide +kernel
theorem dX9_outputAt_32 : decode cX9_outputAt 32 = .ok (.iconst 1, 1) := by decide +kernel
theorem dX9_outputAt_33 : decode cX9_outputAt 33 = .ok (.invokevirtual 47, 3) := by decide +kernel
theorem dX9_outputAt_36 : decode cX9_outputAt 36 = .ok (.i2c, 1) := by decide +kernel
theorem dX9_outputAt_37 : decode cX9_outputAt 37 = .ok (.ireturn, 1) := by decide +kernel
theorem dX9_appendInput_0 : decode cX9_appendInput 0 = .ok (.aload_n 0, 1) := by decide +kernel
theorem dX9_appendInput_1 : decode cX9_appendInput 1 = .ok (.iconst 0, 1) := by decide +kernel
theorem dX9_appendInput_2 : decode cX9_appendInput 2 = .ok (.putfield 38, 3) := by decide +kernel
theorem dX9_appendInput_5 : decode cX9_appendInput 5 = .ok (.iload_n 1, 1) := by decide +kernel
theorem dX9_appendInput_6 : decode cX9_appendInput 6 = .ok (.i2l, 1) := by decide +kernel
theorem dX9_appendInput_7 : decode cX9_appendInput 7 = .ok (.ldc2_w 233, 3) := by decide +kernel
theorem dX9_appendInput_10 : decode cX9_appendInput 10 = .ok (.ldc2_w 235, 3) := by decide +kernel
theorem dX9_appendInput_13 : decode cX9_appendInput 13 = .ok (.invokestatic 63, 3) := by decide +kernel
theorem dX9_appendInput_16 : decode cX9_appendInput 16 = .ok (.ifCond .ne 9, 3) := by decide +kernel
theorem dX9_appendInput_19 : decode cX9_appendInput 19 = .ok (.aload_n 0, 1) := by decide +kernel
theorem dX9_appendInput_20 : decode cX9_appendInput 20 = .ok (.iconst 1, 1) := by decide +kernel
theorem dX9_appendInput_21 : decode cX9_appendInput 21 = .ok (.invokevirtual 47, 3) := by decide +kernel
theorem dX9_appendInput_24 : decode cX9_appendInput 24 = .ok (.ireturn, 1) := by decide +kernel
theorem dX9_appendInput_25 : decode cX9_appendInput 25 = .ok (.aload_n 0, 1) := by decide +kernel
theorem dX9_appendInput_26 : decode cX9_appendInput 26 = .ok (.getfield 237, 3) := by decide +kernel
theorem dX9_appendInput_29 : decode cX9_appendInput 29 = .ok (.bipush 60, 2) := by decide +kernel
theorem dX9_appendInput_31 : decode cX9_appendInput 31 = .ok (.if_icmp .ne 9, 3) := by decide +kernel
theorem dX9_appendInput_34 : decode cX9_appendInput 34 = .ok (.aload_n 0, 1) := by decide +kernel
theorem dX9_appendInput_35 : decode cX9_appendInput 35 = .ok (.iconst 2, 1) := by decide +kernel
theorem dX9_appendInput_36 : decode cX9_appendInput 36 = .ok (.invokevirtual 47, 3) := by decide +kernel
theorem dX9_appendInput_39 : decode cX9_appendInput 39 = .ok (.ireturn, 1) := by decide +kernel
theorem dX9_appendInput_40 : decode cX9_appendInput 40 = .ok (.aload_n 0, 1) := by decide +kernel
theorem dX9_appendInput_41 : decode cX9_appendInput 41 = .ok (.getfield 29, 3) := by decide +kernel
theorem dX9_appendInput_44 : decode cX9_appendInput 44 = .ok (.aload_n 0, 1) := by decide +kernel
theorem dX9_appendInput_45 : decode cX9_appendInput 45 = .ok (.getfield 237, 3) := by decide +kernel
theorem dX9_appendInput_48 : decode cX9_appendInput 48 = .ok (.iload_n 1, 1) := by decide +kernel
theorem dX9_appendInput_49 : decode cX9_appendInput 49 = .ok (.iastore, 1) := by decide +kernel
theorem dX9_appendInput_50 : decode cX9_appendInput 50 = .ok (.aload_n 0, 1) := by decide +kernel
theorem dX9_appendInput_51 : decode cX9_appendInput 51 = .ok (.dup, 1) := by decide +kernel
theorem dX9_appendInput_52 : decode cX9_appendInput 52 = .ok (.getfield 237, 3) := by decide +kernel
theorem dX9_appendInput_55 : decode cX9_appendInput 55 = .ok (.iconst 1, 1) := by decide +kernel
theorem dX9_appendInput_56 : decode cX9_appendInput 56 = .ok (.iadd, 1) := by decide +kernel
theorem dX9_appendInput_57 : decode cX9_appendInput 57 = .ok (.putfield 237, 3) := by decide +kernel
theorem dX9_appendInput_60 : decode cX9_appendInput 60 = .ok (.aload_n 0, 1) := by decide +kernel
theorem dX9_appendInput_61 : decode cX9_appendInput 61 = .ok (.getfield 237, 3) := by decide +kernel
theorem dX9_appendInput_64 : decode cX9_appendInput 64 = .ok (.ireturn, 1) := by decide +kernel
theorem dX9_here_0 : decode cX9_here 0 = .ok (.aload_n 0, 1) := by decide +kernel
theorem dX9_here_1 : decode cX9_here 1 = .ok (.getfield 240, 3) := by decide +kernel
theorem dX9_here_4 : decode cX9_here 4 = .ok (.aload_n 0, 1) := by decide +kernel
theorem dX9_here_5 : decode cX9_here 5 = .ok (.getfield 243, 3) := by decide +kernel
theorem dX9_here_8 : decode cX9_here 8 = .ok (.if_icmp .ge 15, 3) := by decide +kernel
theorem dX9_here_11 : decode cX9_here 11 = .ok (.aload_n 0, 1) := by decide +kernel
theorem dX9_here_12 : decode cX9_here 12 = .ok (.getfield 29, 3) := by decide +kernel
theorem dX9_here_15 : decode cX9_here 15 = .ok (.aload_n 0, 1) := by decide +kernel
theorem dX9_here_16 : decode cX9_here 16 = .ok (.getfield 240, 3) := by decide +kernel
theorem dX9_here_19 : decode cX9_here 19 = .ok (.iaload, 1) := by decide +kernel
theorem dX9_here_20 : decode cX9_here 20 = .ok (.goto 4, 3) := by decide +kernel
theorem dX9_here_23 : decode cX9_here 23 = .ok (.iconst (-1), 1) := by decide +kernel
theorem dX9_here_24 : decode cX9_here 24 = .ok (.ireturn, 1) := by decide +kernel
theorem dX9_expects_0 : decode cX9_expects 0 = .ok (.aload_n 0, 1) := by decide +kernel
theorem dX9_expects_1 : decode cX9_expects 1 = .ok (.aload_n 0, 1) := by decide +kernel
theorem dX9_expects_2 : decode cX9_expects 2 = .ok (.getfield 246, 3) := by decide +kernel
theorem dX9_expects_5 : decode cX9_expects 5 = .ok (.ifCond .ne 11, 3) := by decide +kernel
theorem dX9_expects_8 : decode cX9_expects 8 = .ok (.aload_n 0, 1) := by decide +kernel
theorem dX9_expects_9 : decode cX9_expects 9 = .ok (.invokevirtual 250, 3) := by decide +kernel
theorem dX9_expects_12 : decode cX9_expects 12 = .ok (.iload_n 1, 1) := by decide +kernel
theorem dX9_expects_13 : decode cX9_expects 13 = .ok (.if_icmp .eq 7, 3) := by decide +kernel
theorem dX9_expects_16 : decode cX9_expects 16 = .ok (.iconst 1, 1) := by decide +kernel
theorem dX9_expects_17 : decode cX9_expects 17 = .ok (.goto 4, 3) := by decide +kernel
theorem dX9_expects_20 : decode cX9_expects 20 = .ok (.iconst 0, 1) := by decide +kernel
theorem dX9_expects_21 : decode cX9_expects 21 = .ok (.putfield 246, 3) := by decide +kernel
theorem dX9_expects_24 : decode cX9_expects 24 = .ok (.aload_n 0, 1) := by decide +kernel
theorem dX9_expects_25 : decode cX9_expects 25 = .ok (.dup, 1) := by decide +kernel
theorem dX9_expects_26 : decode cX9_expects 26 = .ok (.getfield 240, 3) := by decide +kernel
theorem dX9_expects_29 : decode cX9_expects 29 = .ok (.aload_n 0, 1) := by decide +kernel
theorem dX9_expects_30 : decode cX9_expects 30 = .ok (.getfield 246, 3) := by decide +kernel
theorem dX9_expects_33 : decode cX9_expects 33 = .ok (.ifCond .eq 7, 3) := by decide +kernel
theorem dX9_expects_36 : decode cX9_expects 36 = .ok (.iconst 0, 1) := by decide +kernel
theorem dX9_expects_37 : decode cX9_expects 37 = .ok (.goto 4, 3) := by decide +kernel
theorem dX9_expects_40 : decode cX9_expects 40 = .ok (.iconst 1, 1) := by decide +kernel
theorem dX9_expects_41 : decode cX9_expects 41 = .ok (.iadd, 1) := by decide +kernel
theorem dX9_expects_42 : decode cX9_expects 42 = .ok (.putfield 240, 3) := by decide +kernel
theorem dX9_expects_45 : decode cX9_expects 45 = .ok (.return_, 1) := by decide +kernel
theorem dX9_digit_0 : decode cX9_digit 0 = .ok (.aload_n 0, 1) := by decide +kernel
theorem dX9_digit_1 : decode cX9_digit 1 = .ok (.aload_n 0, 1) := by decide +kernel
theorem dX9_digit_2 : decode cX9_digit 2 = .ok (.getfield 246, 3) := by decide +kernel
theorem dX9_digit_5 : decode cX9_digit 5 = .ok (.ifCond .ne 20, 3) := by decide +kernel
theorem dX9_digit_8 : decode cX9_digit 8 = .ok (.aload_n 0, 1) := by decide +kernel
theorem dX9_digit_9 : decode cX9_digit 9 = .ok (.invokevirtual 250, 3) := by decide +kernel
theorem dX9_digit_12 : decode cX9_digit 12 = .ok (.i2l, 1) := by decide +kernel
theorem dX9_digit_13 : decode cX9_digit 13 = .ok (.ldc2_w 253, 3) := by decide +kernel
theorem dX9_digit_16 : decode cX9_digit 16 = .ok (.ldc2_w 255, 3) := by decide +kernel
theorem dX9_digit_19 : decode cX9_digit 19 = .ok (.invokestatic 63, 3) := by decide +kernel
theorem dX9_digit_22 : decode cX9_digit 22 = .ok (.ifCond .ne 7, 3) := by decide +kernel
theorem dX9_digit_25 : decode cX9_digit 25 = .ok (.iconst 1, 1) := by decide +kernel
theorem dX9_digit_26 : decode cX9_digit 26 = .ok (.goto 4, 3) := by decide +kernel
theorem dX9_digit_29 : decode cX9_digit 29 = .ok (.iconst 0, 1) := by decide +kernel
theorem dX9_digit_30 : decode cX9_digit 30 = .ok (.putfield 246, 3) := by decide +kernel
theorem dX9_digit_33 : decode cX9_digit 33 = .ok (.aload_n 0, 1) := by decide +kernel
theorem dX9_digit_34 : decode cX9_digit 34 = .ok (.getfield 246, 3) := by decide +kernel
theorem dX9_digit_37 : decode cX9_digit 37 = .ok (.ifCond .eq 7, 3) := by decide +kernel
theorem dX9_digit_40 : decode cX9_digit 40 = .ok (.iconst 0, 1) := by decide +kernel
theorem dX9_digit_41 : decode cX9_digit 41 = .ok (.goto 10, 3) := by decide +kernel
theorem dX9_digit_44 : decode cX9_digit 44 = .ok (.aload_n 0, 1) := by decide +kernel
theorem dX9_digit_45 : decode cX9_digit 45 = .ok (.invokevirtual 250, 3) := by decide +kernel
theorem dX9_digit_48 : decode cX9_digit 48 = .ok (.bipush 48, 2) := by decide +kernel
theorem dX9_digit_50 : decode cX9_digit 50 = .ok (.isub, 1) := by decide +kernel
theorem dX9_digit_51 : decode cX9_digit 51 = .ok (.istore_n 1, 1) := by decide +kernel
theorem dX9_digit_52 : decode cX9_digit 52 = .ok (.aload_n 0, 1) := by decide +kernel
theorem dX9_digit_53 : decode cX9_digit 53 = .ok (.dup, 1) := by decide +kernel
theorem dX9_digit_54 : decode cX9_digit 54 = .ok (.getfield 240, 3) := by decide +kernel
theorem dX9_digit_57 : decode cX9_digit 57 = .ok (.aload_n 0, 1) := by decide +kernel
theorem dX9_digit_58 : decode cX9_digit 58 = .ok (.getfield 246, 3) := by decide +kernel
theorem dX9_digit_61 : decode cX9_digit 61 = .ok (.ifCond .eq 7, 3) := by decide +kernel
theorem dX9_digit_64 : decode cX9_digit 64 = .ok (.iconst 0, 1) := by decide +kernel
theorem dX9_digit_65 : decode cX9_digit 65 = .ok (.goto 4, 3) := by decide +kernel
theorem dX9_digit_68 : decode cX9_digit 68 = .ok (.iconst 1, 1) := by decide +kernel
theorem dX9_digit_69 : decode cX9_digit 69 = .ok (.iadd, 1) := by decide +kernel
theorem dX9_digit_70 : decode cX9_digit 70 = .ok (.putfield 240, 3) := by decide +kernel
theorem dX9_digit_73 : decode cX9_digit 73 = .ok (.iload_n 1, 1) := by decide +kernel
theorem dX9_digit_74 : decode cX9_digit 74 = .ok (.ireturn, 1) := by decide +kernel
theorem dX9_number_0 : decode cX9_number 0 = .ok (.aload_n 0, 1) := by decide +kernel
theorem dX9_number_1 : decode cX9_number 1 = .ok (.invokevirtual 257, 3) := by decide +kernel
theorem dX9_number_4 : decode cX9_number 4 = .ok (.istore_n 1, 1) := by decide +kernel
theorem dX9_number_5 : decode cX9_number 5 = .ok (.aload_n 0, 1) := by decide +kernel
theorem dX9_number_6 : decode cX9_number 6 = .ok (.getfield 246, 3) := by decide +kernel
theorem dX9_number_9 : decode cX9_number 9 = .ok (.ifCond .ne 32, 3) := by decide +kernel
theorem dX9_number_12 : decode cX9_number 12 = .ok (.aload_n 0, 1) := by decide +kernel
theorem dX9_number_13 : decode cX9_number 13 = .ok (.invokevirtual 250, 3) := by decide +kernel
theorem dX9_number_16 : decode cX9_number 16 = .ok (.i2l, 1) := by decide +kernel
theorem dX9_number_17 : decode cX9_number 17 = .ok (.ldc2_w 253, 3) := by decide +kernel
theorem dX9_number_20 : decode cX9_number 20 = .ok (.ldc2_w 255, 3) := by decide +kernel
theorem dX9_number_23 : decode cX9_number 23 = .ok (.invokestatic 63, 3) := by decide +kernel
theorem dX9_number_26 : decode cX9_number 26 = .ok (.ifCond .eq 15, 3) := by decide +kernel
theorem dX9_number_29 : decode cX9_number 29 = .ok (.bipush 10, 2) := by decide +kernel
theorem dX9_number_31 : decode cX9_number 31 = .ok (.iload_n 1, 1) := by decide +kernel
theorem dX9_number_32 : decode cX9_number 32 = .ok (.imul, 1) := by decide +kernel
theorem dX9_number_33 : decode cX9_number 33 = .ok (.aload_n 0, 1) := by decide +kernel
theorem dX9_number_34 : decode cX9_number 34 = .ok (.invokevirtual 257, 3) := by decide +kernel
theorem dX9_number_37 : decode cX9_number 37 = .ok (.iadd, 1) := by decide +kernel
theorem dX9_number_38 : decode cX9_number 38 = .ok (.goto 4, 3) := by decide +kernel
theorem dX9_number_41 : decode cX9_number 41 = .ok (.iload_n 1, 1) := by decide +kernel
theorem dX9_number_42 : decode cX9_number 42 = .ok (.ireturn, 1) := by decide +kernel
theorem dX9_numberBehind_0 : decode cX9_numberBehind 0 = .ok (.aload_n 0, 1) := by decide +kernel
theorem dX9_numberBehind_1 : decode cX9_numberBehind 1 = .ok (.iload_n 1, 1) := by decide +kernel
theorem dX9_numberBehind_2 : decode cX9_numberBehind 2 = .ok (.invokevirtual 260, 3) := by decide +kernel
theorem dX9_numberBehind_5 : decode cX9_numberBehind 5 = .ok (.aload_n 0, 1) := by decide +kernel
theorem dX9_numberBehind_6 : decode cX9_numberBehind 6 = .ok (.invokevirtual 263, 3) := by decide +kernel
theorem dX9_numberBehind_9 : decode cX9_numberBehind 9 = .ok (.ireturn, 1) := by decide +kernel
theorem dX9_readArguments_0 : decode cX9_readArguments 0 = .ok (.iload_n 1, 1) := by decide +kernel
theorem dX9_readArguments_1 : decode cX9_readArguments 1 = .ok (.tableswitch 293 97 121 #[146, 198, 171, 293, 293, 277, 293, 293, 293, 293, 293, 293, 293, 293, 237, 293, 293, 293, 115, 290, 293, 293, 293, 264, 264], 115) := by decide +kernel
theorem dX9_readArguments_116 : decode cX9_readArguments 116 = .ok (.aload_n 0, 1) := by decide +kernel
theorem dX9_readArguments_117 : decode cX9_readArguments 117 = .ok (.getfield 35, 3) := by decide +kernel
theorem dX9_readArguments_120 : decode cX9_readArguments 120 = .ok (.iload_n 2, 1) := by decide +kernel
theorem dX9_readArguments_121 : decode cX9_readArguments 121 = .ok (.aload_n 0, 1) := by decide +kernel
theorem dX9_readArguments_122 : decode cX9_readArguments 122 = .ok (.invokevirtual 263, 3) := by decide +kernel
theorem dX9_readArguments_125 : decode cX9_readArguments 125 = .ok (.iastore, 1) := by decide +kernel
theorem dX9_readArguments_126 : decode cX9_readArguments 126 = .ok (.aload_n 0, 1) := by decide +kernel
theorem dX9_readArguments_127 : decode cX9_readArguments 127 = .ok (.bipush 47, 2) := by decide +kernel
theorem dX9_readArguments_129 : decode cX9_readArguments 129 = .ok (.invokevirtual 260, 3) := by decide +kernel
theorem dX9_readArguments_132 : decode cX9_readArguments 132 = .ok (.aload_n 0, 1) := by decide +kernel
theorem dX9_readArguments_133 : decode cX9_readArguments 133 = .ok (.getfield 35, 3) := by decide +kernel
theorem dX9_readArguments_136 : decode cX9_readArguments 136 = .ok (.iload_n 2, 1) := by decide +kernel
theorem dX9_readArguments_137 : decode cX9_readArguments 137 = .ok (.iconst 1, 1) := by decide +kernel
theorem dX9_readArguments_138 : decode cX9_readArguments 138 = .ok (.iadd, 1) := by decide +kernel
theorem dX9_readArguments_139 : decode cX9_readArguments 139 = .ok (.aload_n 0, 1) := by decide +kernel
theorem dX9_readArguments_140 : decode cX9_readArguments 140 = .ok (.invokevirtual 257, 3) := by decide +kernel
theorem dX9_readArguments_143 : decode cX9_readArguments 143 = .ok (.iastore, 1) := by decide +kernel
theorem dX9_readArguments_144 : decode cX9_readArguments 144 = .ok (.goto 165, 3) := by decide +kernel
theorem dX9_readArguments_147 : decode cX9_readArguments 147 = .ok (.aload_n 0, 1) := by decide +kernel
theorem dX9_readArguments_148 : decode cX9_readArguments 148 = .ok (.getfield 35, 3) := by decide +kernel
theorem dX9_readArguments_151 : decode cX9_readArguments 151 = .ok (.iload_n 2, 1) := by decide +kernel
theorem dX9_readArguments_152 : decode cX9_readArguments 152 = .ok (.aload_n 0, 1) := by decide +kernel
theorem dX9_readArguments_153 : decode cX9_readArguments 153 = .ok (.invokevirtual 257, 3) := by decide +kernel
theorem dX9_readArguments_156 : decode cX9_readArguments 156 = .ok (.iastore, 1) := by decide +kernel
theorem dX9_readArguments_157 : decode cX9_readArguments 157 = .ok (.aload_n 0, 1) := by decide +kernel
theorem dX9_readArguments_158 : decode cX9_readArguments 158 = .ok (.getfield 35, 3) := by decide +kernel
theorem dX9_readArguments_161 : decode cX9_readArguments 161 = .ok (.iload_n 2, 1) := by decide +kernel
theorem dX9_readArguments_162 : decode cX9_readArguments 162 = .ok (.iconst 1, 1) := by decide +kernel
theorem dX9_readArguments_163 : decode cX9_readArguments 163 = .ok (.iadd, 1) := by decide +kernel
theorem dX9_readArguments_164 : decode cX9_readArguments 164 = .ok (.aload_n 0, 1) := by decide +kernel
theorem dX9_readArguments_165 : decode cX9_readArguments 165 = .ok (.invokevirtual 257, 3) := by decide +kernel
theorem dX9_readArguments_168 : decode cX9_readArguments 168 = .ok (.iastore, 1) := by decide +kernel
theorem dX9_readArguments_169 : decode cX9_readArguments 169 = .ok (.goto 140, 3) := by decide +kernel
theorem dX9_readArguments_172 : decode cX9_readArguments 172 = .ok (.aload_n 0, 1) := by decide +kernel
theorem dX9_readArguments_173 : decode cX9_readArguments 173 = .ok (.getfield 35, 3) := by decide +kernel
theorem dX9_readArguments_176 : decode cX9_readArguments 176 = .ok (.iload_n 2, 1) := by decide +kernel
theorem dX9_readArguments_177 : decode cX9_readArguments 177 = .ok (.aload_n 0, 1) := by decide +kernel
theorem dX9_readArguments_178 : decode cX9_readArguments 178 = .ok (.invokevirtual 257, 3) := by decide +kernel
theorem dX9_readArguments_181 : decode cX9_readArguments 181 = .ok (.iastore, 1) := by decide +kernel
theorem dX9_readArguments_182 : decode cX9_readArguments 182 = .ok (.aload_n 0, 1) := by decide +kernel
theorem dX9_readArguments_183 : decode cX9_readArguments 183 = .ok (.getfield 35, 3) := by decide +kernel
theorem dX9_readArguments_186 : decode cX9_readArguments 186 = .ok (.iload_n 2, 1) := by decide +kernel
theorem dX9_readArguments_187 : decode cX9_readArguments 187 = .ok (.iconst 1, 1) := by decide +kernel
theorem dX9_readArguments_188 : decode cX9_readArguments 188 = .ok (.iadd, 1) := by decide +kernel
theorem dX9_readArguments_189 : decode cX9_readArguments 189 = .ok (.aload_n 0, 1) := by decide +kernel
theorem dX9_readArguments_190 : decode cX9_readArguments 190 = .ok (.bipush 43, 2) := by decide +kernel
theorem dX9_readArguments_192 : decode cX9_readArguments 192 = .ok (.invokevirtual 266, 3) := by decide +kernel
theorem dX9_readArguments_195 : decode cX9_readArguments 195 = .ok (.iastore, 1) := by decide +kernel
theorem dX9_readArguments_196 : decode cX9_readArguments 196 = .ok (.goto 113, 3) := by decide +kernel
theorem dX9_readArguments_199 : decode cX9_readArguments 199 = .ok (.aload_n 0, 1) := by decide +kernel
theorem dX9_readArguments_200 : decode cX9_readArguments 200 = .ok (.getfield 35, 3) := by decide +kernel
theorem dX9_readArguments_203 : decode cX9_readArguments 203 = .ok (.iload_n 2, 1) := by decide +kernel
theorem dX9_readArguments_204 : decode cX9_readArguments 204 = .ok (.aload_n 0, 1) := by decide +kernel
theorem dX9_readArguments_205 : decode cX9_readArguments 205 = .ok (.invokevirtual 257, 3) := by decide +kernel
theorem dX9_readArguments_208 : decode cX9_readArguments 208 = .ok (.iastore, 1) := by decide +kernel
theorem dX9_readArguments_209 : decode cX9_readArguments 209 = .ok (.aload_n 0, 1) := by decide +kernel
theorem dX9_readArguments_210 : decode cX9_readArguments 210 = .ok (.getfield 35, 3) := by decide +kernel
theorem dX9_readArguments_213 : decode cX9_readArguments 213 = .ok (.iload_n 2, 1) := by decide +kernel
theorem dX9_readArguments_214 : decode cX9_readArguments 214 = .ok (.iconst 1, 1) := by decide +kernel
theorem dX9_readArguments_215 : decode cX9_readArguments 215 = .ok (.iadd, 1) := by decide +kernel
theorem dX9_readArguments_216 : decode cX9_readArguments 216 = .ok (.aload_n 0, 1) := by decide +kernel
theorem dX9_readArguments_217 : decode cX9_readArguments 217 = .ok (.invokevirtual 257, 3) := by decide +kernel
theorem dX9_readArguments_220 : decode cX9_readArguments 220 = .ok (.iastore, 1) := by decide +kernel
theorem dX9_readArguments_221 : decode cX9_readArguments 221 = .ok (.aload_n 0, 1) := by decide +kernel
theorem dX9_readArguments_222 : decode cX9_readArguments 222 = .ok (.getfield 35, 3) := by decide +kernel
theorem dX9_readArguments_225 : decode cX9_readArguments 225 = .ok (.iload_n 2, 1) := by decide +kernel
theorem dX9_readArguments_226 : decode cX9_readArguments 226 = .ok (.iconst 2, 1) := by decide +kernel
theorem dX9_readArguments_227 : decode cX9_readArguments 227 = .ok (.iadd, 1) := by decide +kernel
theorem dX9_readArguments_228 : decode cX9_readArguments 228 = .ok (.aload_n 0, 1) := by decide +kernel
theorem dX9_readArguments_229 : decode cX9_readArguments 229 = .ok (.bipush 64, 2) := by decide +kernel
theorem dX9_readArguments_231 : decode cX9_readArguments 231 = .ok (.invokevirtual 266, 3) := by decide +kernel
theorem dX9_readArguments_234 : decode cX9_readArguments 234 = .ok (.iastore, 1) := by decide +kernel
theorem dX9_readArguments_235 : decode cX9_readArguments 235 = .ok (.goto 74, 3) := by decide +kernel
theorem dX9_readArguments_238 : decode cX9_readArguments 238 = .ok (.aload_n 0, 1) := by decide +kernel
theorem dX9_readArguments_239 : decode cX9_readArguments 239 = .ok (.getfield 35, 3) := by decide +kernel
theorem dX9_readArguments_242 : decode cX9_readArguments 242 = .ok (.iload_n 2, 1) := by decide +kernel
theorem dX9_readArguments_243 : decode cX9_readArguments 243 = .ok (.aload_n 0, 1) := by decide +kernel
theorem dX9_readArguments_244 : decode cX9_readArguments 244 = .ok (.invokevirtual 263, 3) := by decide +kernel
theorem dX9_readArguments_247 : decode cX9_readArguments 247 = .ok (.iastore, 1) := by decide +kernel
theorem dX9_readArguments_248 : decode cX9_readArguments 248 = .ok (.aload_n 0, 1) := by decide +kernel
theorem dX9_readArguments_249 : decode cX9_readArguments 249 = .ok (.getfield 35, 3) := by decide +kernel
theorem dX9_readArguments_252 : decode cX9_readArguments 252 = .ok (.iload_n 2, 1) := by decide +kernel
theorem dX9_readArguments_253 : decode cX9_readArguments 253 = .ok (.iconst 1, 1) := by decide +kernel
theorem dX9_readArguments_254 : decode cX9_readArguments 254 = .ok (.iadd, 1) := by decide +kernel
theorem dX9_readArguments_255 : decode cX9_readArguments 255 = .ok (.aload_n 0, 1) := by decide +kernel
theorem dX9_readArguments_256 : decode cX9_readArguments 256 = .ok (.bipush 64, 2) := by decide +kernel
theorem dX9_readArguments_258 : decode cX9_readArguments 258 = .ok (.invokevirtual 266, 3) := by decide +kernel
theorem dX9_readArguments_261 : decode cX9_readArguments 261 = .ok (.iastore, 1) := by decide +kernel
theorem dX9_readArguments_262 : decode cX9_readArguments 262 = .ok (.goto 47, 3) := by decide +kernel
theorem dX9_readArguments_265 : decode cX9_readArguments 265 = .ok (.aload_n 0, 1) := by decide +kernel
theorem dX9_readArguments_266 : decode cX9_readArguments 266 = .ok (.getfield 35, 3) := by decide +kernel
theorem dX9_readArguments_269 : decode cX9_readArguments 269 = .ok (.iload_n 2, 1) := by decide +kernel
theorem dX9_readArguments_270 : decode cX9_readArguments 270 = .ok (.aload_n 0, 1) := by decide +kernel
theorem dX9_readArguments_271 : decode cX9_readArguments 271 = .ok (.invokevirtual 263, 3) := by decide +kernel
theorem dX9_readArguments_274 : decode cX9_readArguments 274 = .ok (.iastore, 1) := by decide +kernel
theorem dX9_readArguments_275 : decode cX9_readArguments 275 = .ok (.goto 34, 3) := by decide +kernel
theorem dX9_readArguments_278 : decode cX9_readArguments 278 = .ok (.aload_n 0, 1) := by decide +kernel
theorem dX9_readArguments_279 : decode cX9_readArguments 279 = .ok (.getfield 35, 3) := by decide +kernel
theorem dX9_readArguments_282 : decode cX9_readArguments 282 = .ok (.iload_n 2, 1) := by decide +kernel
theorem dX9_readArguments_283 : decode cX9_readArguments 283 = .ok (.aload_n 0, 1) := by decide +kernel
theorem dX9_readArguments_284 : decode cX9_readArguments 284 = .ok (.invokevirtual 257, 3) := by decide +kernel
theorem dX9_readArguments_287 : decode cX9_readArguments 287 = .ok (.iastore, 1) := by decide +kernel
theorem dX9_readArguments_288 : decode cX9_readArguments 288 = .ok (.goto 21, 3) := by decide +kernel
theorem dX9_readArguments_291 : decode cX9_readArguments 291 = .ok (.goto 18, 3) := by decide +kernel
theorem dX9_readArguments_294 : decode cX9_readArguments 294 = .ok (.aload_n 0, 1) := by decide +kernel
theorem dX9_readArguments_295 : decode cX9_readArguments 295 = .ok (.iconst 1, 1) := by decide +kernel
theorem dX9_readArguments_296 : decode cX9_readArguments 296 = .ok (.putfield 246, 3) := by decide +kernel
theorem dX9_readArguments_299 : decode cX9_readArguments 299 = .ok (.aload_n 0, 1) := by decide +kernel
theorem dX9_readArguments_300 : decode cX9_readArguments 300 = .ok (.dup, 1) := by decide +kernel
theorem dX9_readArguments_301 : decode cX9_readArguments 301 = .ok (.getfield 240, 3) := by decide +kernel
theorem dX9_readArguments_304 : decode cX9_readArguments 304 = .ok (.iconst 1, 1) := by decide +kernel
theorem dX9_readArguments_305 : decode cX9_readArguments 305 = .ok (.isub, 1) := by decide +kernel
theorem dX9_readArguments_306 : decode cX9_readArguments 306 = .ok (.putfield 240, 3) := by decide +kernel
theorem dX9_readArguments_309 : decode cX9_readArguments 309 = .ok (.return_, 1) := by decide +kernel
theorem dX9_readCommand_0 : decode cX9_readCommand 0 = .ok (.iconst 4, 1) := by decide +kernel
theorem dX9_readCommand_1 : decode cX9_readCommand 1 = .ok (.aload_n 0, 1) := by decide +kernel
theorem dX9_readCommand_2 : decode cX9_readCommand 2 = .ok (.getfield 269, 3) := by decide +kernel
theorem dX9_readCommand_5 : decode cX9_readCommand 5 = .ok (.imul, 1) := by decide +kernel
theorem dX9_readCommand_6 : decode cX9_readCommand 6 = .ok (.istore_n 1, 1) := by decide +kernel
theorem dX9_readCommand_7 : decode cX9_readCommand 7 = .ok (.aload_n 0, 1) := by decide +kernel
theorem dX9_readCommand_8 : decode cX9_readCommand 8 = .ok (.getfield 240, 3) := by decide +kernel
theorem dX9_readCommand_11 : decode cX9_readCommand 11 = .ok (.aload_n 0, 1) := by decide +kernel
theorem dX9_readCommand_12 : decode cX9_readCommand 12 = .ok (.getfield 243, 3) := by decide +kernel
theorem dX9_readCommand_15 : decode cX9_readCommand 15 = .ok (.if_icmp .ne 9, 3) := by decide +kernel
theorem dX9_readCommand_18 : decode cX9_readCommand 18 = .ok (.aload_n 0, 1) := by decide +kernel
theorem dX9_readCommand_19 : decode cX9_readCommand 19 = .ok (.iconst 1, 1) := by decide +kernel
theorem dX9_readCommand_20 : decode cX9_readCommand 20 = .ok (.putfield 246, 3) := by decide +kernel
theorem dX9_readCommand_23 : decode cX9_readCommand 23 = .ok (.return_, 1) := by decide +kernel
theorem dX9_readCommand_24 : decode cX9_readCommand 24 = .ok (.aload_n 0, 1) := by decide +kernel
theorem dX9_readCommand_25 : decode cX9_readCommand 25 = .ok (.getfield 35, 3) := by decide +kernel
theorem dX9_readCommand_28 : decode cX9_readCommand 28 = .ok (.iload_n 1, 1) := by decide +kernel
theorem dX9_readCommand_29 : decode cX9_readCommand 29 = .ok (.aload_n 0, 1) := by decide +kernel
theorem dX9_readCommand_30 : decode cX9_readCommand 30 = .ok (.invokevirtual 250, 3) := by decide +kernel
theorem dX9_readCommand_33 : decode cX9_readCommand 33 = .ok (.iastore, 1) := by decide +kernel
theorem dX9_readCommand_34 : decode cX9_readCommand 34 = .ok (.aload_n 0, 1) := by decide +kernel
theorem dX9_readCommand_35 : decode cX9_readCommand 35 = .ok (.dup, 1) := by decide +kernel
theorem dX9_readCommand_36 : decode cX9_readCommand 36 = .ok (.getfield 240, 3) := by decide +kernel
theorem dX9_readCommand_39 : decode cX9_readCommand 39 = .ok (.iconst 1, 1) := by decide +kernel
theorem dX9_readCommand_40 : decode cX9_readCommand 40 = .ok (.iadd, 1) := by decide +kernel
theorem dX9_readCommand_41 : decode cX9_readCommand 41 = .ok (.putfield 240, 3) := by decide +kernel
theorem dX9_readCommand_44 : decode cX9_readCommand 44 = .ok (.aload_n 0, 1) := by decide +kernel
theorem dX9_readCommand_45 : decode cX9_readCommand 45 = .ok (.aload_n 0, 1) := by decide +kernel
theorem dX9_readCommand_46 : decode cX9_readCommand 46 = .ok (.getfield 35, 3) := by decide +kernel
theorem dX9_readCommand_49 : decode cX9_readCommand 49 = .ok (.iload_n 1, 1) := by decide +kernel
theorem dX9_readCommand_50 : decode cX9_readCommand 50 = .ok (.iaload, 1) := by decide +kernel
theorem dX9_readCommand_51 : decode cX9_readCommand 51 = .ok (.iload_n 1, 1) := by decide +kernel
theorem dX9_readCommand_52 : decode cX9_readCommand 52 = .ok (.iconst 1, 1) := by decide +kernel
theorem dX9_readCommand_53 : decode cX9_readCommand 53 = .ok (.iadd, 1) := by decide +kernel
theorem dX9_readCommand_54 : decode cX9_readCommand 54 = .ok (.invokevirtual 272, 3) := by decide +kernel
theorem dX9_readCommand_57 : decode cX9_readCommand 57 = .ok (.aload_n 0, 1) := by decide +kernel
theorem dX9_readCommand_58 : decode cX9_readCommand 58 = .ok (.dup, 1) := by decide +kernel
theorem dX9_readCommand_59 : decode cX9_readCommand 59 = .ok (.getfield 269, 3) := by decide +kernel
theorem dX9_readCommand_62 : decode cX9_readCommand 62 = .ok (.iconst 1, 1) := by decide +kernel
theorem dX9_readCommand_63 : decode cX9_readCommand 63 = .ok (.iadd, 1) := by decide +kernel
theorem dX9_readCommand_64 : decode cX9_readCommand 64 = .ok (.putfield 269, 3) := by decide +kernel
theorem dX9_readCommand_67 : decode cX9_readCommand 67 = .ok (.return_, 1) := by decide +kernel
theorem dX9_does_0 : decode cX9_does 0 = .ok (.aload_n 0, 1) := by decide +kernel
theorem dX9_does_1 : decode cX9_does 1 = .ok (.getfield 35, 3) := by decide +kernel
theorem dX9_does_4 : decode cX9_does 4 = .ok (.iload_n 1, 1) := by decide +kernel
theorem dX9_does_5 : decode cX9_does 5 = .ok (.iconst 1, 1) := by decide +kernel
theorem dX9_does_6 : decode cX9_does 6 = .ok (.iadd, 1) := by decide +kernel
theorem dX9_does_7 : decode cX9_does 7 = .ok (.iaload, 1) := by decide +kernel
theorem dX9_does_8 : decode cX9_does 8 = .ok (.istore_n 2, 1) := by decide +kernel
theorem dX9_does_9 : decode cX9_does 9 = .ok (.aload_n 0, 1) := by decide +kernel
theorem dX9_does_10 : decode cX9_does 10 = .ok (.getfield 35, 3) := by decide +kernel
theorem dX9_does_13 : decode cX9_does 13 = .ok (.iload_n 1, 1) := by decide +kernel
theorem dX9_does_14 : decode cX9_does 14 = .ok (.iconst 2, 1) := by decide +kernel
theorem dX9_does_15 : decode cX9_does 15 = .ok (.iadd, 1) := by decide +kernel
theorem dX9_does_16 : decode cX9_does 16 = .ok (.iaload, 1) := by decide +kernel
theorem dX9_does_17 : decode cX9_does 17 = .ok (.istore_n 3, 1) := by decide +kernel
theorem dX9_does_18 : decode cX9_does 18 = .ok (.aload_n 0, 1) := by decide +kernel
theorem dX9_does_19 : decode cX9_does 19 = .ok (.getfield 35, 3) := by decide +kernel
theorem dX9_does_22 : decode cX9_does 22 = .ok (.iload_n 1, 1) := by decide +kernel
theorem dX9_does_23 : decode cX9_does 23 = .ok (.iaload, 1) := by decide +kernel
theorem dX9_does_24 : decode cX9_does 24 = .ok (.tableswitch 201 97 121 #[126, 146, 136, 201, 201, 192, 201, 201, 201, 201, 201, 201, 201, 201, 164, 201, 201, 201, 116, 201, 201, 201, 201, 174, 183], 116) := by decide +kernel
theorem dX9_does_140 : decode cX9_does 140 = .ok (.aload_n 0, 1) := by decide +kernel
theorem dX9_does_141 : decode cX9_does 141 = .ok (.iload_n 2, 1) := by decide +kernel
theorem dX9_does_142 : decode cX9_does 142 = .ok (.iload_n 3, 1) := by decide +kernel
theorem dX9_does_143 : decode cX9_does 143 = .ok (.invokevirtual 113, 3) := by decide +kernel
theorem dX9_does_146 : decode cX9_does 146 = .ok (.pop, 1) := by decide +kernel
theorem dX9_does_147 : decode cX9_does 147 = .ok (.goto 83, 3) := by decide +kernel
theorem dX9_does_150 : decode cX9_does 150 = .ok (.aload_n 0, 1) := by decide +kernel
theorem dX9_does_151 : decode cX9_does 151 = .ok (.iload_n 2, 1) := by decide +kernel
theorem dX9_does_152 : decode cX9_does 152 = .ok (.iload_n 3, 1) := by decide +kernel
theorem dX9_does_153 : decode cX9_does 153 = .ok (.invokevirtual 129, 3) := by decide +kernel
theorem dX9_does_156 : decode cX9_does 156 = .ok (.pop, 1) := by decide +kernel
theorem dX9_does_157 : decode cX9_does 157 = .ok (.goto 73, 3) := by decide +kernel
theorem dX9_does_160 : decode cX9_does 160 = .ok (.aload_n 0, 1) := by decide +kernel
theorem dX9_does_161 : decode cX9_does 161 = .ok (.iload_n 2, 1) := by decide +kernel
theorem dX9_does_162 : decode cX9_does 162 = .ok (.iload_n 3, 1) := by decide +kernel
theorem dX9_does_163 : decode cX9_does 163 = .ok (.invokevirtual 132, 3) := by decide +kernel
theorem dX9_does_166 : decode cX9_does 166 = .ok (.pop, 1) := by decide +kernel
theorem dX9_does_167 : decode cX9_does 167 = .ok (.goto 63, 3) := by decide +kernel
theorem dX9_does_170 : decode cX9_does 170 = .ok (.aload_n 0, 1) := by decide +kernel
theorem dX9_does_171 : decode cX9_does 171 = .ok (.iload_n 2, 1) := by decide +kernel
theorem dX9_does_172 : decode cX9_does 172 = .ok (.iload_n 3, 1) := by decide +kernel
theorem dX9_does_173 : decode cX9_does 173 = .ok (.aload_n 0, 1) := by decide +kernel
theorem dX9_does_174 : decode cX9_does 174 = .ok (.getfield 35, 3) := by decide +kernel
theorem dX9_does_177 : decode cX9_does 177 = .ok (.iload_n 1, 1) := by decide +kernel
theorem dX9_does_178 : decode cX9_does 178 = .ok (.iconst 3, 1) := by decide +kernel
theorem dX9_does_179 : decode cX9_does 179 = .ok (.iadd, 1) := by decide +kernel
theorem dX9_does_180 : decode cX9_does 180 = .ok (.iaload, 1) := by decide +kernel
theorem dX9_does_181 : decode cX9_does 181 = .ok (.invokevirtual 141, 3) := by decide +kernel
theorem dX9_does_184 : decode cX9_does 184 = .ok (.pop, 1) := by decide +kernel
theorem dX9_does_185 : decode cX9_does 185 = .ok (.goto 45, 3) := by decide +kernel
theorem dX9_does_188 : decode cX9_does 188 = .ok (.aload_n 0, 1) := by decide +kernel
theorem dX9_does_189 : decode cX9_does 189 = .ok (.iload_n 2, 1) := by decide +kernel
theorem dX9_does_190 : decode cX9_does 190 = .ok (.iload_n 3, 1) := by decide +kernel
theorem dX9_does_191 : decode cX9_does 191 = .ok (.invokevirtual 150, 3) := by decide +kernel
theorem dX9_does_194 : decode cX9_does 194 = .ok (.pop, 1) := by decide +kernel
theorem dX9_does_195 : decode cX9_does 195 = .ok (.goto 35, 3) := by decide +kernel
theorem dX9_does_198 : decode cX9_does 198 = .ok (.aload_n 0, 1) := by decide +kernel
theorem dX9_does_199 : decode cX9_does 199 = .ok (.iload_n 2, 1) := by decide +kernel
theorem dX9_does_200 : decode cX9_does 200 = .ok (.invokevirtual 160, 3) := by decide +kernel
theorem dX9_does_203 : decode cX9_does 203 = .ok (.pop, 1) := by decide +kernel
theorem dX9_does_204 : decode cX9_does 204 = .ok (.goto 26, 3) := by decide +kernel
theorem dX9_does_207 : decode cX9_does 207 = .ok (.aload_n 0, 1) := by decide +kernel
theorem dX9_does_208 : decode cX9_does 208 = .ok (.iload_n 2, 1) := by decide +kernel
theorem dX9_does_209 : decode cX9_does 209 = .ok (.invokevirtual 169, 3) := by decide +kernel
theorem dX9_does_212 : decode cX9_does 212 = .ok (.pop, 1) := by decide +kernel
theorem dX9_does_213 : decode cX9_does 213 = .ok (.goto 17, 3) := by decide +kernel
theorem dX9_does_216 : decode cX9_does 216 = .ok (.aload_n 0, 1) := by decide +kernel
theorem dX9_does_217 : decode cX9_does 217 = .ok (.iload_n 2, 1) := by decide +kernel
theorem dX9_does_218 : decode cX9_does 218 = .ok (.invokevirtual 197, 3) := by decide +kernel
theorem dX9_does_221 : decode cX9_does 221 = .ok (.pop, 1) := by decide +kernel
theorem dX9_does_222 : decode cX9_does 222 = .ok (.goto 8, 3) := by decide +kernel
theorem dX9_does_225 : decode cX9_does 225 = .ok (.aload_n 0, 1) := by decide +kernel
theorem dX9_does_226 : decode cX9_does 226 = .ok (.invokevirtual 194, 3) := by decide +kernel
theorem dX9_does_229 : decode cX9_does 229 = .ok (.pop, 1) := by decide +kernel
theorem dX9_does_230 : decode cX9_does 230 = .ok (.return_, 1) := by decide +kernel
theorem dX9_fails_0 : decode cX9_fails 0 = .ok (.iconst 0, 1) := by decide +kernel
theorem dX9_fails_1 : decode cX9_fails 1 = .ok (.istore_n 2, 1) := by decide +kernel
theorem dX9_fails_2 : decode cX9_fails 2 = .ok (.iload_n 2, 1) := by decide +kernel
theorem dX9_fails_3 : decode cX9_fails 3 = .ok (.sipush 212, 3) := by decide +kernel
theorem dX9_fails_6 : decode cX9_fails 6 = .ok (.if_icmp .ge 21, 3) := by decide +kernel
theorem dX9_fails_9 : decode cX9_fails 9 = .ok (.aload_n 0, 1) := by decide +kernel
theorem dX9_fails_10 : decode cX9_fails 10 = .ok (.getfield 9, 3) := by decide +kernel
theorem dX9_fails_13 : decode cX9_fails 13 = .ok (.iload_n 2, 1) := by decide +kernel
theorem dX9_fails_14 : decode cX9_fails 14 = .ok (.aload_n 0, 1) := by decide +kernel
theorem dX9_fails_15 : decode cX9_fails 15 = .ok (.getfield 13, 3) := by decide +kernel
theorem dX9_fails_18 : decode cX9_fails 18 = .ok (.iload_n 2, 1) := by decide +kernel
theorem dX9_fails_19 : decode cX9_fails 19 = .ok (.iaload, 1) := by decide +kernel
theorem dX9_fails_20 : decode cX9_fails 20 = .ok (.iastore, 1) := by decide +kernel
theorem dX9_fails_21 : decode cX9_fails 21 = .ok (.iinc 2 1, 3) := by decide +kernel
theorem dX9_fails_24 : decode cX9_fails 24 = .ok (.goto (-22), 3) := by decide +kernel
theorem dX9_fails_27 : decode cX9_fails 27 = .ok (.aload_n 0, 1) := by decide +kernel
theorem dX9_fails_28 : decode cX9_fails 28 = .ok (.getfield 41, 3) := by decide +kernel
theorem dX9_fails_31 : decode cX9_fails 31 = .ok (.ifCond .ne 9, 3) := by decide +kernel
theorem dX9_fails_34 : decode cX9_fails 34 = .ok (.aload_n 0, 1) := by decide +kernel
theorem dX9_fails_35 : decode cX9_fails 35 = .ok (.iconst 2, 1) := by decide +kernel
theorem dX9_fails_36 : decode cX9_fails 36 = .ok (.invokevirtual 47, 3) := by decide +kernel
theorem dX9_fails_39 : decode cX9_fails 39 = .ok (.ireturn, 1) := by decide +kernel
theorem dX9_fails_40 : decode cX9_fails 40 = .ok (.aload_n 0, 1) := by decide +kernel
theorem dX9_fails_41 : decode cX9_fails 41 = .ok (.bipush 7, 2) := by decide +kernel
theorem dX9_fails_43 : decode cX9_fails 43 = .ok (.putfield 51, 3) := by decide +kernel
theorem dX9_fails_46 : decode cX9_fails 46 = .ok (.aload_n 0, 1) := by decide +kernel
theorem dX9_fails_47 : decode cX9_fails 47 = .ok (.iload_n 1, 1) := by decide +kernel
theorem dX9_fails_48 : decode cX9_fails 48 = .ok (.putfield 54, 3) := by decide +kernel
theorem dX9_fails_51 : decode cX9_fails 51 = .ok (.aload_n 0, 1) := by decide +kernel
theorem dX9_fails_52 : decode cX9_fails 52 = .ok (.aload_n 0, 1) := by decide +kernel
theorem dX9_fails_53 : decode cX9_fails 53 = .ok (.getfield 41, 3) := by decide +kernel
theorem dX9_fails_56 : decode cX9_fails 56 = .ok (.putfield 57, 3) := by decide +kernel
theorem dX9_fails_59 : decode cX9_fails 59 = .ok (.aload_n 0, 1) := by decide +kernel
theorem dX9_fails_60 : decode cX9_fails 60 = .ok (.iconst 3, 1) := by decide +kernel
theorem dX9_fails_61 : decode cX9_fails 61 = .ok (.invokevirtual 47, 3) := by decide +kernel
theorem dX9_fails_64 : decode cX9_fails 64 = .ok (.ireturn, 1) := by decide +kernel
theorem dX9_execute_0 : decode cX9_execute 0 = .ok (.aload_n 0, 1) := by decide +kernel
theorem dX9_execute_1 : decode cX9_execute 1 = .ok (.invokevirtual 110, 3) := by decide +kernel
theorem dX9_execute_4 : decode cX9_execute 4 = .ok (.aload_n 0, 1) := by decide +kernel
theorem dX9_execute_5 : decode cX9_execute 5 = .ok (.aload_n 0, 1) := by decide +kernel
theorem dX9_execute_6 : decode cX9_execute 6 = .ok (.getfield 237, 3) := by decide +kernel
theorem dX9_execute_9 : decode cX9_execute 9 = .ok (.putfield 243, 3) := by decide +kernel
theorem dX9_execute_12 : decode cX9_execute 12 = .ok (.aload_n 0, 1) := by decide +kernel
theorem dX9_execute_13 : decode cX9_execute 13 = .ok (.iconst 0, 1) := by decide +kernel
theorem dX9_execute_14 : decode cX9_execute 14 = .ok (.putfield 237, 3) := by decide +kernel
theorem dX9_execute_17 : decode cX9_execute 17 = .ok (.aload_n 0, 1) := by decide +kernel
theorem dX9_execute_18 : decode cX9_execute 18 = .ok (.iconst 0, 1) := by decide +kernel
theorem dX9_execute_19 : decode cX9_execute 19 = .ok (.putfield 240, 3) := by decide +kernel
theorem dX9_execute_22 : decode cX9_execute 22 = .ok (.aload_n 0, 1) := by decide +kernel
theorem dX9_execute_23 : decode cX9_execute 23 = .ok (.iconst 0, 1) := by decide +kernel
theorem dX9_execute_24 : decode cX9_execute 24 = .ok (.putfield 269, 3) := by decide +kernel
theorem dX9_execute_27 : decode cX9_execute 27 = .ok (.aload_n 0, 1) := by decide +kernel
theorem dX9_execute_28 : decode cX9_execute 28 = .ok (.iconst 0, 1) := by decide +kernel
theorem dX9_execute_29 : decode cX9_execute 29 = .ok (.putfield 246, 3) := by decide +kernel
theorem dX9_execute_32 : decode cX9_execute 32 = .ok (.iconst 1, 1) := by decide +kernel
theorem dX9_execute_33 : decode cX9_execute 33 = .ok (.istore_n 1, 1) := by decide +kernel
theorem dX9_execute_34 : decode cX9_execute 34 = .ok (.iload_n 1, 1) := by decide +kernel
theorem dX9_execute_35 : decode cX9_execute 35 = .ok (.ifCond .eq 57, 3) := by decide +kernel
theorem dX9_execute_38 : decode cX9_execute 38 = .ok (.aload_n 0, 1) := by decide +kernel
theorem dX9_execute_39 : decode cX9_execute 39 = .ok (.invokevirtual 275, 3) := by decide +kernel
theorem dX9_execute_42 : decode cX9_execute 42 = .ok (.aload_n 0, 1) := by decide +kernel
theorem dX9_execute_43 : decode cX9_execute 43 = .ok (.getfield 246, 3) := by decide +kernel
theorem dX9_execute_46 : decode cX9_execute 46 = .ok (.ifCond .ne 18, 3) := by decide +kernel
theorem dX9_execute_49 : decode cX9_execute 49 = .ok (.aload_n 0, 1) := by decide +kernel
theorem dX9_execute_50 : decode cX9_execute 50 = .ok (.getfield 240, 3) := by decide +kernel
theorem dX9_execute_53 : decode cX9_execute 53 = .ok (.aload_n 0, 1) := by decide +kernel
theorem dX9_execute_54 : decode cX9_execute 54 = .ok (.getfield 243, 3) := by decide +kernel
theorem dX9_execute_57 : decode cX9_execute 57 = .ok (.if_icmp .ge 7, 3) := by decide +kernel
theorem dX9_execute_60 : decode cX9_execute 60 = .ok (.iconst 1, 1) := by decide +kernel
theorem dX9_execute_61 : decode cX9_execute 61 = .ok (.goto 4, 3) := by decide +kernel
theorem dX9_execute_64 : decode cX9_execute 64 = .ok (.iconst 0, 1) := by decide +kernel
theorem dX9_execute_65 : decode cX9_execute 65 = .ok (.istore_n 1, 1) := by decide +kernel
theorem dX9_execute_66 : decode cX9_execute 66 = .ok (.iload_n 1, 1) := by decide +kernel
theorem dX9_execute_67 : decode cX9_execute 67 = .ok (.ifCond .eq (-33), 3) := by decide +kernel
theorem dX9_execute_70 : decode cX9_execute 70 = .ok (.aload_n 0, 1) := by decide +kernel
theorem dX9_execute_71 : decode cX9_execute 71 = .ok (.bipush 59, 2) := by decide +kernel
theorem dX9_execute_73 : decode cX9_execute 73 = .ok (.invokevirtual 260, 3) := by decide +kernel
theorem dX9_execute_76 : decode cX9_execute 76 = .ok (.aload_n 0, 1) := by decide +kernel
theorem dX9_execute_77 : decode cX9_execute 77 = .ok (.getfield 246, 3) := by decide +kernel
theorem dX9_execute_80 : decode cX9_execute 80 = .ok (.ifCond .ne 7, 3) := by decide +kernel
theorem dX9_execute_83 : decode cX9_execute 83 = .ok (.iconst 1, 1) := by decide +kernel
theorem dX9_execute_84 : decode cX9_execute 84 = .ok (.goto 4, 3) := by decide +kernel
theorem dX9_execute_87 : decode cX9_execute 87 = .ok (.iconst 0, 1) := by decide +kernel
theorem dX9_execute_88 : decode cX9_execute 88 = .ok (.istore_n 1, 1) := by decide +kernel
theorem dX9_execute_89 : decode cX9_execute 89 = .ok (.goto (-55), 3) := by decide +kernel
theorem dX9_execute_92 : decode cX9_execute 92 = .ok (.aload_n 0, 1) := by decide +kernel
theorem dX9_execute_93 : decode cX9_execute 93 = .ok (.getfield 246, 3) := by decide +kernel
theorem dX9_execute_96 : decode cX9_execute 96 = .ok (.ifCond .eq 17, 3) := by decide +kernel
theorem dX9_execute_99 : decode cX9_execute 99 = .ok (.aload_n 0, 1) := by decide +kernel
theorem dX9_execute_100 : decode cX9_execute 100 = .ok (.aload_n 0, 1) := by decide +kernel
theorem dX9_execute_101 : decode cX9_execute 101 = .ok (.getfield 240, 3) := by decide +kernel
theorem dX9_execute_104 : decode cX9_execute 104 = .ok (.putfield 25, 3) := by decide +kernel
theorem dX9_execute_107 : decode cX9_execute 107 = .ok (.aload_n 0, 1) := by decide +kernel
theorem dX9_execute_108 : decode cX9_execute 108 = .ok (.iconst 1, 1) := by decide +kernel
theorem dX9_execute_109 : decode cX9_execute 109 = .ok (.invokevirtual 47, 3) := by decide +kernel
theorem dX9_execute_112 : decode cX9_execute 112 = .ok (.ireturn, 1) := by decide +kernel
theorem dX9_execute_113 : decode cX9_execute 113 = .ok (.iconst 0, 1) := by decide +kernel
theorem dX9_execute_114 : decode cX9_execute 114 = .ok (.istore_n 2, 1) := by decide +kernel
theorem dX9_execute_115 : decode cX9_execute 115 = .ok (.iload_n 2, 1) := by decide +kernel
theorem dX9_execute_116 : decode cX9_execute 116 = .ok (.aload_n 0, 1) := by decide +kernel
theorem dX9_execute_117 : decode cX9_execute 117 = .ok (.getfield 269, 3) := by decide +kernel
theorem dX9_execute_120 : decode cX9_execute 120 = .ok (.if_icmp .ge 29, 3) := by decide +kernel
theorem dX9_execute_123 : decode cX9_execute 123 = .ok (.aload_n 0, 1) := by decide +kernel
theorem dX9_execute_124 : decode cX9_execute 124 = .ok (.iconst 4, 1) := by decide +kernel
theorem dX9_execute_125 : decode cX9_execute 125 = .ok (.iload_n 2, 1) := by decide +kernel
theorem dX9_execute_126 : decode cX9_execute 126 = .ok (.imul, 1) := by decide +kernel
theorem dX9_execute_127 : decode cX9_execute 127 = .ok (.invokevirtual 278, 3) := by decide +kernel
theorem dX9_execute_130 : decode cX9_execute 130 = .ok (.aload_n 0, 1) := by decide +kernel
theorem dX9_execute_131 : decode cX9_execute 131 = .ok (.getfield 38, 3) := by decide +kernel
theorem dX9_execute_134 : decode cX9_execute 134 = .ok (.ifCond .le 9, 3) := by decide +kernel
theorem dX9_execute_137 : decode cX9_execute 137 = .ok (.aload_n 0, 1) := by decide +kernel
theorem dX9_execute_138 : decode cX9_execute 138 = .ok (.iload_n 2, 1) := by decide +kernel
theorem dX9_execute_139 : decode cX9_execute 139 = .ok (.invokevirtual 281, 3) := by decide +kernel
theorem dX9_execute_142 : decode cX9_execute 142 = .ok (.ireturn, 1) := by decide +kernel
theorem dX9_execute_143 : decode cX9_execute 143 = .ok (.iinc 2 1, 3) := by decide +kernel
theorem dX9_execute_146 : decode cX9_execute 146 = .ok (.goto (-31), 3) := by decide +kernel
theorem dX9_execute_149 : decode cX9_execute 149 = .ok (.aload_n 0, 1) := by decide +kernel
theorem dX9_execute_150 : decode cX9_execute 150 = .ok (.aload_n 0, 1) := by decide +kernel
theorem dX9_execute_151 : decode cX9_execute 151 = .ok (.getfield 269, 3) := by decide +kernel
theorem dX9_execute_154 : decode cX9_execute 154 = .ok (.invokevirtual 117, 3) := by decide +kernel
theorem dX9_execute_157 : decode cX9_execute 157 = .ok (.ireturn, 1) := by decide +kernel
theorem dX9_syntaxErrorOffset_0 : decode cX9_syntaxErrorOffset 0 = .ok (.aload_n 0, 1) := by decide +kernel
theorem dX9_syntaxErrorOffset_1 : decode cX9_syntaxErrorOffset 1 = .ok (.iconst 0, 1) := by decide +kernel
theorem dX9_syntaxErrorOffset_2 : decode cX9_syntaxErrorOffset 2 = .ok (.putfield 38, 3) := by decide +kernel
theorem dX9_syntaxErrorOffset_5 : decode cX9_syntaxErrorOffset 5 = .ok (.aload_n 0, 1) := by decide +kernel
theorem dX9_syntaxErrorOffset_6 : decode cX9_syntaxErrorOffset 6 = .ok (.getfield 25, 3) := by decide +kernel
theorem dX9_syntaxErrorOffset_9 : decode cX9_syntaxErrorOffset 9 = .ok (.iconst (-1), 1) := by decide +kernel
theorem dX9_syntaxErrorOffset_10 : decode cX9_syntaxErrorOffset 10 = .ok (.if_icmp .ne 11, 3) := by decide +kernel
theorem dX9_syntaxErrorOffset_13 : decode cX9_syntaxErrorOffset 13 = .ok (.aload_n 0, 1) := by decide +kernel
theorem dX9_syntaxErrorOffset_14 : decode cX9_syntaxErrorOffset 14 = .ok (.iconst 1, 1) := by decide +kernel
theorem dX9_syntaxErrorOffset_15 : decode cX9_syntaxErrorOffset 15 = .ok (.invokevirtual 47, 3) := by decide +kernel
theorem dX9_syntaxErrorOffset_18 : decode cX9_syntaxErrorOffset 18 = .ok (.goto 7, 3) := by decide +kernel
theorem dX9_syntaxErrorOffset_21 : decode cX9_syntaxErrorOffset 21 = .ok (.aload_n 0, 1) := by decide +kernel
theorem dX9_syntaxErrorOffset_22 : decode cX9_syntaxErrorOffset 22 = .ok (.getfield 25, 3) := by decide +kernel
theorem dX9_syntaxErrorOffset_25 : decode cX9_syntaxErrorOffset 25 = .ok (.ireturn, 1) := by decide +kernel
theorem dX9_rejectionReason_0 : decode cX9_rejectionReason 0 = .ok (.aload_n 0, 1) := by decide +kernel
theorem dX9_rejectionReason_1 : decode cX9_rejectionReason 1 = .ok (.iconst 0, 1) := by decide +kernel
theorem dX9_rejectionReason_2 : decode cX9_rejectionReason 2 = .ok (.putfield 38, 3) := by decide +kernel
theorem dX9_rejectionReason_5 : decode cX9_rejectionReason 5 = .ok (.aload_n 0, 1) := by decide +kernel
theorem dX9_rejectionReason_6 : decode cX9_rejectionReason 6 = .ok (.getfield 51, 3) := by decide +kernel
theorem dX9_rejectionReason_9 : decode cX9_rejectionReason 9 = .ok (.ifCond .ne 11, 3) := by decide +kernel
theorem dX9_rejectionReason_12 : decode cX9_rejectionReason 12 = .ok (.aload_n 0, 1) := by decide +kernel
theorem dX9_rejectionReason_13 : decode cX9_rejectionReason 13 = .ok (.iconst 1, 1) := by decide +kernel
theorem dX9_rejectionReason_14 : decode cX9_rejectionReason 14 = .ok (.invokevirtual 47, 3) := by decide +kernel
theorem dX9_rejectionReason_17 : decode cX9_rejectionReason 17 = .ok (.goto 7, 3) := by decide +kernel
theorem dX9_rejectionReason_20 : decode cX9_rejectionReason 20 = .ok (.aload_n 0, 1) := by decide +kernel
theorem dX9_rejectionReason_21 : decode cX9_rejectionReason 21 = .ok (.getfield 51, 3) := by decide +kernel
theorem dX9_rejectionReason_24 : decode cX9_rejectionReason 24 = .ok (.ireturn, 1) := by decide +kernel
theorem dX9_rejectionDetail_0 : decode cX9_rejectionDetail 0 = .ok (.aload_n 0, 1) := by decide +kernel
theorem dX9_rejectionDetail_1 : decode cX9_rejectionDetail 1 = .ok (.iconst 0, 1) := by decide +kernel
theorem dX9_rejectionDetail_2 : decode cX9_rejectionDetail 2 = .ok (.putfield 38, 3) := by decide +kernel
theorem dX9_rejectionDetail_5 : decode cX9_rejectionDetail 5 = .ok (.aload_n 0, 1) := by decide +kernel
theorem dX9_rejectionDetail_6 : decode cX9_rejectionDetail 6 = .ok (.getfield 51, 3) := by decide +kernel
theorem dX9_rejectionDetail_9 : decode cX9_rejectionDetail 9 = .ok (.ifCond .ne 11, 3) := by decide +kernel
theorem dX9_rejectionDetail_12 : decode cX9_rejectionDetail 12 = .ok (.aload_n 0, 1) := by decide +kernel
theorem dX9_rejectionDetail_13 : decode cX9_rejectionDetail 13 = .ok (.iconst 1, 1) := by decide +kernel
theorem dX9_rejectionDetail_14 : decode cX9_rejectionDetail 14 = .ok (.invokevirtual 47, 3) := by decide +kernel
theorem dX9_rejectionDetail_17 : decode cX9_rejectionDetail 17 = .ok (.goto 7, 3) := by decide +kernel
theorem dX9_rejectionDetail_20 : decode cX9_rejectionDetail 20 = .ok (.aload_n 0, 1) := by decide +kernel
theorem dX9_rejectionDetail_21 : decode cX9_rejectionDetail 21 = .ok (.getfield 54, 3) := by decide +kernel
theorem dX9_rejectionDetail_24 : decode cX9_rejectionDetail 24 = .ok (.ireturn, 1) := by decide +kernel
theorem dX9_causeReason_0 : decode cX9_causeReason 0 = .ok (.aload_n 0, 1) := by decide +kernel
theorem dX9_causeReason_1 : decode cX9_causeReason 1 = .ok (.iconst 0, 1) := by decide +kernel
theorem dX9_causeReason_2 : decode cX9_causeReason 2 = .ok (.putfield 38, 3) := by decide +kernel
theorem dX9_causeReason_5 : decode cX9_causeReason 5 = .ok (.aload_n 0, 1) := by decide +kernel
theorem dX9_causeReason_6 : decode cX9_causeReason 6 = .ok (.getfield 57, 3) := by decide +kernel
theorem dX9_causeReason_9 : decode cX9_causeReason 9 = .ok (.ifCond .ne 11, 3) := by decide +kernel
theorem dX9_causeReason_12 : decode cX9_causeReason 12 = .ok (.aload_n 0, 1) := by decide +kernel
theorem dX9_causeReason_13 : decode cX9_causeReason 13 = .ok (.iconst 1, 1) := by decide +kernel
theorem dX9_causeReason_14 : decode cX9_causeReason 14 = .ok (.invokevirtual 47, 3) := by decide +kernel
theorem dX9_causeReason_17 : decode cX9_causeReason 17 = .ok (.goto 7, 3) := by decide +kernel
theorem dX9_causeReason_20 : decode cX9_causeReason 20 = .ok (.aload_n 0, 1) := by decide +kernel
theorem dX9_causeReason_21 : decode cX9_causeReason 21 = .ok (.getfield 57, 3) := by decide +kernel
theorem dX9_causeReason_24 : decode cX9_causeReason 24 = .ok (.ireturn, 1) := by decide +kernel
theorem dX9_undo_0 : decode cX9_undo 0 = .ok (.aload_n 0, 1) := by decide +kernel
theorem dX9_undo_1 : decode cX9_undo 1 = .ok (.iconst 0, 1) := by decide +kernel
theorem dX9_undo_2 : decode cX9_undo 2 = .ok (.putfield 38, 3) := by decide +kernel
theorem dX9_undo_5 : decode cX9_undo 5 = .ok (.aload_n 0, 1) := by decide +kernel
theorem dX9_undo_6 : decode cX9_undo 6 = .ok (.getfield 60, 3) := by decide +kernel
theorem dX9_undo_9 : decode cX9_undo 9 = .ok (.ifCond .ne 9, 3) := by decide +kernel
theorem dX9_undo_12 : decode cX9_undo 12 = .ok (.aload_n 0, 1) := by decide +kernel
theorem dX9_undo_13 : decode cX9_undo 13 = .ok (.iconst 1, 1) := by decide +kernel
theorem dX9_undo_14 : decode cX9_undo 14 = .ok (.invokevirtual 47, 3) := by decide +kernel
theorem dX9_undo_17 : decode cX9_undo 17 = .ok (.ireturn, 1) := by decide +kernel
theorem dX9_undo_18 : decode cX9_undo 18 = .ok (.aload_n 0, 1) := by decide +kernel
theorem dX9_undo_19 : decode cX9_undo 19 = .ok (.dup, 1) := by decide +kernel
theorem dX9_undo_20 : decode cX9_undo 20 = .ok (.getfield 60, 3) := by decide +kernel
theorem dX9_undo_23 : decode cX9_undo 23 = .ok (.iconst 1, 1) := by decide +kernel
theorem dX9_undo_24 : decode cX9_undo 24 = .ok (.isub, 1) := by decide +kernel
theorem dX9_undo_25 : decode cX9_undo 25 = .ok (.putfield 60, 3) := by decide +kernel
theorem dX9_undo_28 : decode cX9_undo 28 = .ok (.iconst 0, 1) := by decide +kernel
theorem dX9_undo_29 : decode cX9_undo 29 = .ok (.istore_n 1, 1) := by decide +kernel
theorem dX9_undo_30 : decode cX9_undo 30 = .ok (.iload_n 1, 1) := by decide +kernel
theorem dX9_undo_31 : decode cX9_undo 31 = .ok (.sipush 212, 3) := by decide +kernel
theorem dX9_undo_34 : decode cX9_undo 34 = .ok (.if_icmp .ge 30, 3) := by decide +kernel
theorem dX9_undo_37 : decode cX9_undo 37 = .ok (.aload_n 0, 1) := by decide +kernel
theorem dX9_undo_38 : decode cX9_undo 38 = .ok (.getfield 9, 3) := by decide +kernel
theorem dX9_undo_41 : decode cX9_undo 41 = .ok (.iload_n 1, 1) := by decide +kernel
theorem dX9_undo_42 : decode cX9_undo 42 = .ok (.aload_n 0, 1) := by decide +kernel
theorem dX9_undo_43 : decode cX9_undo 43 = .ok (.getfield 22, 3) := by decide +kernel
theorem dX9_undo_46 : decode cX9_undo 46 = .ok (.sipush 212, 3) := by decide +kernel
theorem dX9_undo_49 : decode cX9_undo 49 = .ok (.aload_n 0, 1) := by decide +kernel
theorem dX9_undo_50 : decode cX9_undo 50 = .ok (.getfield 60, 3) := by decide +kernel
theorem dX9_undo_53 : decode cX9_undo 53 = .ok (.imul, 1) := by decide +kernel
theorem dX9_undo_54 : decode cX9_undo 54 = .ok (.iload_n 1, 1) := by decide +kernel
theorem dX9_undo_55 : decode cX9_undo 55 = .ok (.iadd, 1) := by decide +kernel
theorem dX9_undo_56 : decode cX9_undo 56 = .ok (.iaload, 1) := by decide +kernel
theorem dX9_undo_57 : decode cX9_undo 57 = .ok (.iastore, 1) := by decide +kernel
theorem dX9_undo_58 : decode cX9_undo 58 = .ok (.iinc 1 1, 3) := by decide +kernel
theorem dX9_undo_61 : decode cX9_undo 61 = .ok (.goto (-31), 3) := by decide +kernel
theorem dX9_undo_64 : decode cX9_undo 64 = .ok (.aload_n 0, 1) := by decide +kernel
theorem dX9_undo_65 : decode cX9_undo 65 = .ok (.getfield 60, 3) := by decide +kernel
theorem dX9_undo_68 : decode cX9_undo 68 = .ok (.ireturn, 1) := by decide +kernel
theorem dX9_saveSnapshot_0 : decode cX9_saveSnapshot 0 = .ok (.aload_n 0, 1) := by decide +kernel
theorem dX9_saveSnapshot_1 : decode cX9_saveSnapshot 1 = .ok (.iconst 0, 1) := by decide +kernel
theorem dX9_saveSnapshot_2 : decode cX9_saveSnapshot 2 = .ok (.putfield 38, 3) := by decide +kernel
theorem dX9_saveSnapshot_5 : decode cX9_saveSnapshot 5 = .ok (.iconst 0, 1) := by decide +kernel
theorem dX9_saveSnapshot_6 : decode cX9_saveSnapshot 6 = .ok (.istore_n 1, 1) := by decide +kernel
theorem dX9_saveSnapshot_7 : decode cX9_saveSnapshot 7 = .ok (.iload_n 1, 1) := by decide +kernel
theorem dX9_saveSnapshot_8 : decode cX9_saveSnapshot 8 = .ok (.sipush 212, 3) := by decide +kernel
theorem dX9_saveSnapshot_11 : decode cX9_saveSnapshot 11 = .ok (.if_icmp .ge 21, 3) := by decide +kernel
theorem dX9_saveSnapshot_14 : decode cX9_saveSnapshot 14 = .ok (.aload_n 0, 1) := by decide +kernel
theorem dX9_saveSnapshot_15 : decode cX9_saveSnapshot 15 = .ok (.getfield 19, 3) := by decide +kernel
theorem dX9_saveSnapshot_18 : decode cX9_saveSnapshot 18 = .ok (.iload_n 1, 1) := by decide +kernel
theorem dX9_saveSnapshot_19 : decode cX9_saveSnapshot 19 = .ok (.aload_n 0, 1) := by decide +kernel
theorem dX9_saveSnapshot_20 : decode cX9_saveSnapshot 20 = .ok (.getfield 9, 3) := by decide +kernel
theorem dX9_saveSnapshot_23 : decode cX9_saveSnapshot 23 = .ok (.iload_n 1, 1) := by decide +kernel
theorem dX9_saveSnapshot_24 : decode cX9_saveSnapshot 24 = .ok (.iaload, 1) := by decide +kernel
theorem dX9_saveSnapshot_25 : decode cX9_saveSnapshot 25 = .ok (.iastore, 1) := by decide +kernel
theorem dX9_saveSnapshot_26 : decode cX9_saveSnapshot 26 = .ok (.iinc 1 1, 3) := by decide +kernel
theorem dX9_saveSnapshot_29 : decode cX9_saveSnapshot 29 = .ok (.goto (-22), 3) := by decide +kernel
theorem dX9_saveSnapshot_32 : decode cX9_saveSnapshot 32 = .ok (.aload_n 0, 1) := by decide +kernel
theorem dX9_saveSnapshot_33 : decode cX9_saveSnapshot 33 = .ok (.iconst 1, 1) := by decide +kernel
theorem dX9_saveSnapshot_34 : decode cX9_saveSnapshot 34 = .ok (.putfield 284, 3) := by decide +kernel
theorem dX9_saveSnapshot_37 : decode cX9_saveSnapshot 37 = .ok (.aload_n 0, 1) := by decide +kernel
theorem dX9_saveSnapshot_38 : decode cX9_saveSnapshot 38 = .ok (.getfield 9, 3) := by decide +kernel
theorem dX9_saveSnapshot_41 : decode cX9_saveSnapshot 41 = .ok (.iconst 0, 1) := by decide +kernel
theorem dX9_saveSnapshot_42 : decode cX9_saveSnapshot 42 = .ok (.iaload, 1) := by decide +kernel
theorem dX9_saveSnapshot_43 : decode cX9_saveSnapshot 43 = .ok (.ireturn, 1) := by decide +kernel
theorem dX9_restoreSnapshot_0 : decode cX9_restoreSnapshot 0 = .ok (.aload_n 0, 1) := by decide +kernel
theorem dX9_restoreSnapshot_1 : decode cX9_restoreSnapshot 1 = .ok (.iconst 0, 1) := by decide +kernel
theorem dX9_restoreSnapshot_2 : decode cX9_restoreSnapshot 2 = .ok (.putfield 38, 3) := by decide +kernel
theorem dX9_restoreSnapshot_5 : decode cX9_restoreSnapshot 5 = .ok (.aload_n 0, 1) := by decide +kernel
theorem dX9_restoreSnapshot_6 : decode cX9_restoreSnapshot 6 = .ok (.getfield 284, 3) := by decide +kernel
theorem dX9_restoreSnapshot_9 : decode cX9_restoreSnapshot 9 = .ok (.ifCond .ne 9, 3) := by decide +kernel
theorem dX9_restoreSnapshot_12 : decode cX9_restoreSnapshot 12 = .ok (.aload_n 0, 1) := by decide +kernel
theorem dX9_restoreSnapshot_13 : decode cX9_restoreSnapshot 13 = .ok (.iconst 1, 1) := by decide +kernel
theorem dX9_restoreSnapshot_14 : decode cX9_restoreSnapshot 14 = .ok (.invokevirtual 47, 3) := by decide +kernel
theorem dX9_restoreSnapshot_17 : decode cX9_restoreSnapshot 17 = .ok (.ireturn, 1) := by decide +kernel
theorem dX9_restoreSnapshot_18 : decode cX9_restoreSnapshot 18 = .ok (.iconst 0, 1) := by decide +kernel
theorem dX9_restoreSnapshot_19 : decode cX9_restoreSnapshot 19 = .ok (.istore_n 1, 1) := by decide +kernel
theorem dX9_restoreSnapshot_20 : decode cX9_restoreSnapshot 20 = .ok (.iload_n 1, 1) := by decide +kernel
theorem dX9_restoreSnapshot_21 : decode cX9_restoreSnapshot 21 = .ok (.sipush 212, 3) := by decide +kernel
theorem dX9_restoreSnapshot_24 : decode cX9_restoreSnapshot 24 = .ok (.if_icmp .ge 21, 3) := by decide +kernel
theorem dX9_restoreSnapshot_27 : decode cX9_restoreSnapshot 27 = .ok (.aload_n 0, 1) := by decide +kernel
theorem dX9_restoreSnapshot_28 : decode cX9_restoreSnapshot 28 = .ok (.getfield 9, 3) := by decide +kernel
theorem dX9_restoreSnapshot_31 : decode cX9_restoreSnapshot 31 = .ok (.iload_n 1, 1) := by decide +kernel
theorem dX9_restoreSnapshot_32 : decode cX9_restoreSnapshot 32 = .ok (.aload_n 0, 1) := by decide +kernel
theorem dX9_restoreSnapshot_33 : decode cX9_restoreSnapshot 33 = .ok (.getfield 19, 3) := by decide +kernel
theorem dX9_restoreSnapshot_36 : decode cX9_restoreSnapshot 36 = .ok (.iload_n 1, 1) := by decide +kernel
theorem dX9_restoreSnapshot_37 : decode cX9_restoreSnapshot 37 = .ok (.iaload, 1) := by decide +kernel
theorem dX9_restoreSnapshot_38 : decode cX9_restoreSnapshot 38 = .ok (.iastore, 1) := by decide +kernel
theorem dX9_restoreSnapshot_39 : decode cX9_restoreSnapshot 39 = .ok (.iinc 1 1, 3) := by decide +kernel
theorem dX9_restoreSnapshot_42 : decode cX9_restoreSnapshot 42 = .ok (.goto (-22), 3) := by decide +kernel
theorem dX9_restoreSnapshot_45 : decode cX9_restoreSnapshot 45 = .ok (.aload_n 0, 1) := by decide +kernel
theorem dX9_restoreSnapshot_46 : decode cX9_restoreSnapshot 46 = .ok (.iconst 0, 1) := by decide +kernel
theorem dX9_restoreSnapshot_47 : decode cX9_restoreSnapshot 47 = .ok (.putfield 60, 3) := by decide +kernel
theorem dX9_restoreSnapshot_50 : decode cX9_restoreSnapshot 50 = .ok (.aload_n 0, 1) := by decide +kernel
theorem dX9_restoreSnapshot_51 : decode cX9_restoreSnapshot 51 = .ok (.getfield 9, 3) := by decide +kernel
theorem dX9_restoreSnapshot_54 : decode cX9_restoreSnapshot 54 = .ok (.iconst 0, 1) := by decide +kernel
theorem dX9_restoreSnapshot_55 : decode cX9_restoreSnapshot 55 = .ok (.iaload, 1) := by decide +kernel
theorem dX9_restoreSnapshot_56 : decode cX9_restoreSnapshot 56 = .ok (.ireturn, 1) := by decide +kernel
