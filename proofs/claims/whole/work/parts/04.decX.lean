theorem dX0_init_0 : decode cX0_init 0 = .ok (.aload_n 0, 1) := by decide +kernel
theorem dX0_init_1 : decode cX0_init 1 = .ok (.bipush 10, 2) := by decide +kernel
theorem dX0_init_3 : decode cX0_init 3 = .ok (.invokespecial 3, 3) := by decide +kernel
theorem dX0_init_6 : decode cX0_init 6 = .ok (.return_, 1) := by decide +kernel
theorem dX0_comesAhead_0 : decode cX0_comesAhead 0 = .ok (.iload_n 2, 1) := by decide +kernel
theorem dX0_comesAhead_1 : decode cX0_comesAhead 1 = .ok (.aload_n 0, 1) := by decide +kernel
theorem dX0_comesAhead_2 : decode cX0_comesAhead 2 = .ok (.getfield 9, 3) := by decide +kernel
theorem dX0_comesAhead_5 : decode cX0_comesAhead 5 = .ok (.iload_n 3, 1) := by decide +kernel
theorem dX0_comesAhead_6 : decode cX0_comesAhead 6 = .ok (.iaload, 1) := by decide +kernel
theorem dX0_comesAhead_7 : decode cX0_comesAhead 7 = .ok (.if_icmp .le 7, 3) := by decide +kernel
theorem dX0_comesAhead_10 : decode cX0_comesAhead 10 = .ok (.iconst 1, 1) := by decide +kernel
theorem dX0_comesAhead_11 : decode cX0_comesAhead 11 = .ok (.goto 4, 3) := by decide +kernel
theorem dX0_comesAhead_14 : decode cX0_comesAhead 14 = .ok (.iconst 0, 1) := by decide +kernel
theorem dX0_comesAhead_15 : decode cX0_comesAhead 15 = .ok (.ireturn, 1) := by decide +kernel
theorem dX1_init_0 : decode cX1_init 0 = .ok (.aload_n 0, 1) := by decide +kernel
theorem dX1_init_1 : decode cX1_init 1 = .ok (.invokespecial 3, 3) := by decide +kernel
theorem dX1_init_4 : decode cX1_init 4 = .ok (.aload_n 0, 1) := by decide +kernel
theorem dX1_init_5 : decode cX1_init 5 = .ok (.iconst 0, 1) := by decide +kernel
theorem dX1_init_6 : decode cX1_init 6 = .ok (.putfield 9, 3) := by decide +kernel
theorem dX1_init_9 : decode cX1_init 9 = .ok (.aload_n 0, 1) := by decide +kernel
theorem dX1_init_10 : decode cX1_init 10 = .ok (.bipush 6, 2) := by decide +kernel
theorem dX1_init_12 : decode cX1_init 12 = .ok (.newarray .int, 2) := by decide +kernel
theorem dX1_init_14 : decode cX1_init 14 = .ok (.putfield 15, 3) := by decide +kernel
theorem dX1_init_17 : decode cX1_init 17 = .ok (.aload_n 0, 1) := by decide +kernel
theorem dX1_init_18 : decode cX1_init 18 = .ok (.bipush 6, 2) := by decide +kernel
theorem dX1_init_20 : decode cX1_init 20 = .ok (.newarray .int, 2) := by decide +kernel
theorem dX1_init_22 : decode cX1_init 22 = .ok (.putfield 19, 3) := by decide +kernel
theorem dX1_init_25 : decode cX1_init 25 = .ok (.aload_n 0, 1) := by decide +kernel
theorem dX1_init_26 : decode cX1_init 26 = .ok (.iconst 0, 1) := by decide +kernel
theorem dX1_init_27 : decode cX1_init 27 = .ok (.putfield 22, 3) := by decide +kernel
theorem dX1_init_30 : decode cX1_init 30 = .ok (.aload_n 0, 1) := by decide +kernel
theorem dX1_init_31 : decode cX1_init 31 = .ok (.bipush 16, 2) := by decide +kernel
theorem dX1_init_33 : decode cX1_init 33 = .ok (.newarray .int, 2) := by decide +kernel
theorem dX1_init_35 : decode cX1_init 35 = .ok (.putfield 25, 3) := by decide +kernel
theorem dX1_init_38 : decode cX1_init 38 = .ok (.aload_n 0, 1) := by decide +kernel
theorem dX1_init_39 : decode cX1_init 39 = .ok (.bipush 16, 2) := by decide +kernel
theorem dX1_init_41 : decode cX1_init 41 = .ok (.newarray .int, 2) := by decide +kernel
theorem dX1_init_43 : decode cX1_init 43 = .ok (.putfield 28, 3) := by decide +kernel
theorem dX1_init_46 : decode cX1_init 46 = .ok (.return_, 1) := by decide +kernel
theorem dX1_copyFrom_0 : decode cX1_copyFrom 0 = .ok (.aload_n 0, 1) := by decide +kernel
theorem dX1_copyFrom_1 : decode cX1_copyFrom 1 = .ok (.aload_n 1, 1) := by decide +kernel
theorem dX1_copyFrom_2 : decode cX1_copyFrom 2 = .ok (.getfield 9, 3) := by decide +kernel
theorem dX1_copyFrom_5 : decode cX1_copyFrom 5 = .ok (.putfield 9, 3) := by decide +kernel
theorem dX1_copyFrom_8 : decode cX1_copyFrom 8 = .ok (.aload_n 1, 1) := by decide +kernel
theorem dX1_copyFrom_9 : decode cX1_copyFrom 9 = .ok (.getfield 15, 3) := by decide +kernel
theorem dX1_copyFrom_12 : decode cX1_copyFrom 12 = .ok (.iconst 0, 1) := by decide +kernel
theorem dX1_copyFrom_13 : decode cX1_copyFrom 13 = .ok (.aload_n 0, 1) := by decide +kernel
theorem dX1_copyFrom_14 : decode cX1_copyFrom 14 = .ok (.getfield 15, 3) := by decide +kernel
theorem dX1_copyFrom_17 : decode cX1_copyFrom 17 = .ok (.iconst 0, 1) := by decide +kernel
theorem dX1_copyFrom_18 : decode cX1_copyFrom 18 = .ok (.bipush 6, 2) := by decide +kernel
theorem dX1_copyFrom_20 : decode cX1_copyFrom 20 = .ok (.invokestatic 31, 3) := by decide +kernel
theorem dX1_copyFrom_23 : decode cX1_copyFrom 23 = .ok (.aload_n 1, 1) := by decide +kernel
theorem dX1_copyFrom_24 : decode cX1_copyFrom 24 = .ok (.getfield 19, 3) := by decide +kernel
theorem dX1_copyFrom_27 : decode cX1_copyFrom 27 = .ok (.iconst 0, 1) := by decide +kernel
theorem dX1_copyFrom_28 : decode cX1_copyFrom 28 = .ok (.aload_n 0, 1) := by decide +kernel
theorem dX1_copyFrom_29 : decode cX1_copyFrom 29 = .ok (.getfield 19, 3) := by decide +kernel
theorem dX1_copyFrom_32 : decode cX1_copyFrom 32 = .ok (.iconst 0, 1) := by decide +kernel
theorem dX1_copyFrom_33 : decode cX1_copyFrom 33 = .ok (.bipush 6, 2) := by decide +kernel
theorem dX1_copyFrom_35 : decode cX1_copyFrom 35 = .ok (.invokestatic 31, 3) := by decide +kernel
theorem dX1_copyFrom_38 : decode cX1_copyFrom 38 = .ok (.aload_n 0, 1) := by decide +kernel
theorem dX1_copyFrom_39 : decode cX1_copyFrom 39 = .ok (.aload_n 1, 1) := by decide +kernel
theorem dX1_copyFrom_40 : decode cX1_copyFrom 40 = .ok (.getfield 22, 3) := by decide +kernel
theorem dX1_copyFrom_43 : decode cX1_copyFrom 43 = .ok (.putfield 22, 3) := by decide +kernel
theorem dX1_copyFrom_46 : decode cX1_copyFrom 46 = .ok (.aload_n 1, 1) := by decide +kernel
theorem dX1_copyFrom_47 : decode cX1_copyFrom 47 = .ok (.getfield 25, 3) := by decide +kernel
theorem dX1_copyFrom_50 : decode cX1_copyFrom 50 = .ok (.iconst 0, 1) := by decide +kernel
theorem dX1_copyFrom_51 : decode cX1_copyFrom 51 = .ok (.aload_n 0, 1) := by decide +kernel
theorem dX1_copyFrom_52 : decode cX1_copyFrom 52 = .ok (.getfield 25, 3) := by decide +kernel
theorem dX1_copyFrom_55 : decode cX1_copyFrom 55 = .ok (.iconst 0, 1) := by decide +kernel
theorem dX1_copyFrom_56 : decode cX1_copyFrom 56 = .ok (.bipush 16, 2) := by decide +kernel
theorem dX1_copyFrom_58 : decode cX1_copyFrom 58 = .ok (.invokestatic 31, 3) := by decide +kernel
theorem dX1_copyFrom_61 : decode cX1_copyFrom 61 = .ok (.aload_n 1, 1) := by decide +kernel
theorem dX1_copyFrom_62 : decode cX1_copyFrom 62 = .ok (.getfield 28, 3) := by decide +kernel
theorem dX1_copyFrom_65 : decode cX1_copyFrom 65 = .ok (.iconst 0, 1) := by decide +kernel
theorem dX1_copyFrom_66 : decode cX1_copyFrom 66 = .ok (.aload_n 0, 1) := by decide +kernel
theorem dX1_copyFrom_67 : decode cX1_copyFrom 67 = .ok (.getfield 28, 3) := by decide +kernel
theorem dX1_copyFrom_70 : decode cX1_copyFrom 70 = .ok (.iconst 0, 1) := by decide +kernel
theorem dX1_copyFrom_71 : decode cX1_copyFrom 71 = .ok (.bipush 16, 2) := by decide +kernel
theorem dX1_copyFrom_73 : decode cX1_copyFrom 73 = .ok (.invokestatic 31, 3) := by decide +kernel
theorem dX1_copyFrom_76 : decode cX1_copyFrom 76 = .ok (.return_, 1) := by decide +kernel
theorem dX1_hasShip_0 : decode cX1_hasShip 0 = .ok (.iload_n 1, 1) := by decide +kernel
theorem dX1_hasShip_1 : decode cX1_hasShip 1 = .ok (.ifCond .lt 15, 3) := by decide +kernel
theorem dX1_hasShip_4 : decode cX1_hasShip 4 = .ok (.iload_n 1, 1) := by decide +kernel
theorem dX1_hasShip_5 : decode cX1_hasShip 5 = .ok (.aload_n 0, 1) := by decide +kernel
theorem dX1_hasShip_6 : decode cX1_hasShip 6 = .ok (.getfield 9, 3) := by decide +kernel
theorem dX1_hasShip_9 : decode cX1_hasShip 9 = .ok (.if_icmp .ge 7, 3) := by decide +kernel
theorem dX1_hasShip_12 : decode cX1_hasShip 12 = .ok (.iconst 1, 1) := by decide +kernel
theorem dX1_hasShip_13 : decode cX1_hasShip 13 = .ok (.goto 4, 3) := by decide +kernel
theorem dX1_hasShip_16 : decode cX1_hasShip 16 = .ok (.iconst 0, 1) := by decide +kernel
theorem dX1_hasShip_17 : decode cX1_hasShip 17 = .ok (.ireturn, 1) := by decide +kernel
theorem dX1_hasBarnacle_0 : decode cX1_hasBarnacle 0 = .ok (.iload_n 1, 1) := by decide +kernel
theorem dX1_hasBarnacle_1 : decode cX1_hasBarnacle 1 = .ok (.ifCond .lt 15, 3) := by decide +kernel
theorem dX1_hasBarnacle_4 : decode cX1_hasBarnacle 4 = .ok (.iload_n 1, 1) := by decide +kernel
theorem dX1_hasBarnacle_5 : decode cX1_hasBarnacle 5 = .ok (.aload_n 0, 1) := by decide +kernel
theorem dX1_hasBarnacle_6 : decode cX1_hasBarnacle 6 = .ok (.getfield 22, 3) := by decide +kernel
theorem dX1_hasBarnacle_9 : decode cX1_hasBarnacle 9 = .ok (.if_icmp .ge 7, 3) := by decide +kernel
theorem dX1_hasBarnacle_12 : decode cX1_hasBarnacle 12 = .ok (.iconst 1, 1) := by decide +kernel
theorem dX1_hasBarnacle_13 : decode cX1_hasBarnacle 13 = .ok (.goto 4, 3) := by decide +kernel
theorem dX1_hasBarnacle_16 : decode cX1_hasBarnacle 16 = .ok (.iconst 0, 1) := by decide +kernel
theorem dX1_hasBarnacle_17 : decode cX1_hasBarnacle 17 = .ok (.ireturn, 1) := by decide +kernel
theorem dX1_launch_0 : decode cX1_launch 0 = .ok (.aload_n 0, 1) := by decide +kernel
theorem dX1_launch_1 : decode cX1_launch 1 = .ok (.getfield 9, 3) := by decide +kernel
theorem dX1_launch_4 : decode cX1_launch 4 = .ok (.istore_n 3, 1) := by decide +kernel
theorem dX1_launch_5 : decode cX1_launch 5 = .ok (.aload_n 0, 1) := by decide +kernel
theorem dX1_launch_6 : decode cX1_launch 6 = .ok (.getfield 15, 3) := by decide +kernel
theorem dX1_launch_9 : decode cX1_launch 9 = .ok (.iload_n 3, 1) := by decide +kernel
theorem dX1_launch_10 : decode cX1_launch 10 = .ok (.iload_n 1, 1) := by decide +kernel
theorem dX1_launch_11 : decode cX1_launch 11 = .ok (.iastore, 1) := by decide +kernel
theorem dX1_launch_12 : decode cX1_launch 12 = .ok (.aload_n 0, 1) := by decide +kernel
theorem dX1_launch_13 : decode cX1_launch 13 = .ok (.getfield 19, 3) := by decide +kernel
theorem dX1_launch_16 : decode cX1_launch 16 = .ok (.iload_n 3, 1) := by decide +kernel
theorem dX1_launch_17 : decode cX1_launch 17 = .ok (.iload_n 2, 1) := by decide +kernel
theorem dX1_launch_18 : decode cX1_launch 18 = .ok (.iastore, 1) := by decide +kernel
theorem dX1_launch_19 : decode cX1_launch 19 = .ok (.aload_n 0, 1) := by decide +kernel
theorem dX1_launch_20 : decode cX1_launch 20 = .ok (.dup, 1) := by decide +kernel
theorem dX1_launch_21 : decode cX1_launch 21 = .ok (.getfield 9, 3) := by decide +kernel
theorem dX1_launch_24 : decode cX1_launch 24 = .ok (.iconst 1, 1) := by decide +kernel
theorem dX1_launch_25 : decode cX1_launch 25 = .ok (.iadd, 1) := by decide +kernel
theorem dX1_launch_26 : decode cX1_launch 26 = .ok (.putfield 9, 3) := by decide +kernel
theorem dX1_launch_29 : decode cX1_launch 29 = .ok (.iload_n 3, 1) := by decide +kernel
theorem dX1_launch_30 : decode cX1_launch 30 = .ok (.ireturn, 1) := by decide +kernel
theorem dX1_board_0 : decode cX1_board 0 = .ok (.aload_n 0, 1) := by decide +kernel
theorem dX1_board_1 : decode cX1_board 1 = .ok (.getfield 22, 3) := by decide +kernel
theorem dX1_board_4 : decode cX1_board 4 = .ok (.istore_n 3, 1) := by decide +kernel
theorem dX1_board_5 : decode cX1_board 5 = .ok (.aload_n 0, 1) := by decide +kernel
theorem dX1_board_6 : decode cX1_board 6 = .ok (.getfield 25, 3) := by decide +kernel
theorem dX1_board_9 : decode cX1_board 9 = .ok (.iload_n 3, 1) := by decide +kernel
theorem dX1_board_10 : decode cX1_board 10 = .ok (.iload_n 2, 1) := by decide +kernel
theorem dX1_board_11 : decode cX1_board 11 = .ok (.iastore, 1) := by decide +kernel
theorem dX1_board_12 : decode cX1_board 12 = .ok (.aload_n 0, 1) := by decide +kernel
theorem dX1_board_13 : decode cX1_board 13 = .ok (.getfield 28, 3) := by decide +kernel
theorem dX1_board_16 : decode cX1_board 16 = .ok (.iload_n 3, 1) := by decide +kernel
theorem dX1_board_17 : decode cX1_board 17 = .ok (.iload_n 1, 1) := by decide +kernel
theorem dX1_board_18 : decode cX1_board 18 = .ok (.iastore, 1) := by decide +kernel
theorem dX1_board_19 : decode cX1_board 19 = .ok (.aload_n 0, 1) := by decide +kernel
theorem dX1_board_20 : decode cX1_board 20 = .ok (.dup, 1) := by decide +kernel
theorem dX1_board_21 : decode cX1_board 21 = .ok (.getfield 22, 3) := by decide +kernel
theorem dX1_board_24 : decode cX1_board 24 = .ok (.iconst 1, 1) := by decide +kernel
theorem dX1_board_25 : decode cX1_board 25 = .ok (.iadd, 1) := by decide +kernel
theorem dX1_board_26 : decode cX1_board 26 = .ok (.putfield 22, 3) := by decide +kernel
theorem dX1_board_29 : decode cX1_board 29 = .ok (.iload_n 3, 1) := by decide +kernel
theorem dX1_board_30 : decode cX1_board 30 = .ok (.ireturn, 1) := by decide +kernel
theorem dX1_loadOn_0 : decode cX1_loadOn 0 = .ok (.iconst 0, 1) := by decide +kernel
theorem dX1_loadOn_1 : decode cX1_loadOn 1 = .ok (.istore_n 2, 1) := by decide +kernel
theorem dX1_loadOn_2 : decode cX1_loadOn 2 = .ok (.iconst 0, 1) := by decide +kernel
theorem dX1_loadOn_3 : decode cX1_loadOn 3 = .ok (.istore_n 3, 1) := by decide +kernel
theorem dX1_loadOn_4 : decode cX1_loadOn 4 = .ok (.iload_n 3, 1) := by decide +kernel
theorem dX1_loadOn_5 : decode cX1_loadOn 5 = .ok (.aload_n 0, 1) := by decide +kernel
theorem dX1_loadOn_6 : decode cX1_loadOn 6 = .ok (.getfield 22, 3) := by decide +kernel
theorem dX1_loadOn_9 : decode cX1_loadOn 9 = .ok (.if_icmp .ge 22, 3) := by decide +kernel
theorem dX1_loadOn_12 : decode cX1_loadOn 12 = .ok (.aload_n 0, 1) := by decide +kernel
theorem dX1_loadOn_13 : decode cX1_loadOn 13 = .ok (.getfield 28, 3) := by decide +kernel
theorem dX1_loadOn_16 : decode cX1_loadOn 16 = .ok (.iload_n 3, 1) := by decide +kernel
theorem dX1_loadOn_17 : decode cX1_loadOn 17 = .ok (.iaload, 1) := by decide +kernel
theorem dX1_loadOn_18 : decode cX1_loadOn 18 = .ok (.iload_n 1, 1) := by decide +kernel
theorem dX1_loadOn_19 : decode cX1_loadOn 19 = .ok (.if_icmp .ne 6, 3) := by decide +kernel
theorem dX1_loadOn_22 : decode cX1_loadOn 22 = .ok (.iinc 2 1, 3) := by decide +kernel
theorem dX1_loadOn_25 : decode cX1_loadOn 25 = .ok (.iinc 3 1, 3) := by decide +kernel
theorem dX1_loadOn_28 : decode cX1_loadOn 28 = .ok (.goto (-24), 3) := by decide +kernel
theorem dX1_loadOn_31 : decode cX1_loadOn 31 = .ok (.iload_n 2, 1) := by decide +kernel
theorem dX1_loadOn_32 : decode cX1_loadOn 32 = .ok (.ireturn, 1) := by decide +kernel
theorem dX1_barnacleInOrder_0 : decode cX1_barnacleInOrder 0 = .ok (.iconst 0, 1) := by decide +kernel
theorem dX1_barnacleInOrder_1 : decode cX1_barnacleInOrder 1 = .ok (.istore_n 3, 1) := by decide +kernel
theorem dX1_barnacleInOrder_2 : decode cX1_barnacleInOrder 2 = .ok (.iload_n 3, 1) := by decide +kernel
theorem dX1_barnacleInOrder_3 : decode cX1_barnacleInOrder 3 = .ok (.aload_n 0, 1) := by decide +kernel
theorem dX1_barnacleInOrder_4 : decode cX1_barnacleInOrder 4 = .ok (.getfield 22, 3) := by decide +kernel
theorem dX1_barnacleInOrder_7 : decode cX1_barnacleInOrder 7 = .ok (.if_icmp .ge 30, 3) := by decide +kernel
theorem dX1_barnacleInOrder_10 : decode cX1_barnacleInOrder 10 = .ok (.aload_n 0, 1) := by decide +kernel
theorem dX1_barnacleInOrder_11 : decode cX1_barnacleInOrder 11 = .ok (.getfield 28, 3) := by decide +kernel
theorem dX1_barnacleInOrder_14 : decode cX1_barnacleInOrder 14 = .ok (.iload_n 3, 1) := by decide +kernel
theorem dX1_barnacleInOrder_15 : decode cX1_barnacleInOrder 15 = .ok (.iaload, 1) := by decide +kernel
theorem dX1_barnacleInOrder_16 : decode cX1_barnacleInOrder 16 = .ok (.iload_n 1, 1) := by decide +kernel
theorem dX1_barnacleInOrder_17 : decode cX1_barnacleInOrder 17 = .ok (.if_icmp .ne 14, 3) := by decide +kernel
theorem dX1_barnacleInOrder_20 : decode cX1_barnacleInOrder 20 = .ok (.aload_n 0, 1) := by decide +kernel
theorem dX1_barnacleInOrder_21 : decode cX1_barnacleInOrder 21 = .ok (.iload_n 3, 1) := by decide +kernel
theorem dX1_barnacleInOrder_22 : decode cX1_barnacleInOrder 22 = .ok (.invokevirtual 37, 3) := by decide +kernel
theorem dX1_barnacleInOrder_25 : decode cX1_barnacleInOrder 25 = .ok (.iload_n 2, 1) := by decide +kernel
theorem dX1_barnacleInOrder_26 : decode cX1_barnacleInOrder 26 = .ok (.if_icmp .ne 5, 3) := by decide +kernel
theorem dX1_barnacleInOrder_29 : decode cX1_barnacleInOrder 29 = .ok (.iload_n 3, 1) := by decide +kernel
theorem dX1_barnacleInOrder_30 : decode cX1_barnacleInOrder 30 = .ok (.ireturn, 1) := by decide +kernel
theorem dX1_barnacleInOrder_31 : decode cX1_barnacleInOrder 31 = .ok (.iinc 3 1, 3) := by decide +kernel
theorem dX1_barnacleInOrder_34 : decode cX1_barnacleInOrder 34 = .ok (.goto (-32), 3) := by decide +kernel
theorem dX1_barnacleInOrder_37 : decode cX1_barnacleInOrder 37 = .ok (.iconst (-1), 1) := by decide +kernel
theorem dX1_barnacleInOrder_38 : decode cX1_barnacleInOrder 38 = .ok (.ireturn, 1) := by decide +kernel
theorem dX1_barnaclesAhead_0 : decode cX1_barnaclesAhead 0 = .ok (.iconst 0, 1) := by decide +kernel
theorem dX1_barnaclesAhead_1 : decode cX1_barnaclesAhead 1 = .ok (.istore_n 2, 1) := by decide +kernel
theorem dX1_barnaclesAhead_2 : decode cX1_barnaclesAhead 2 = .ok (.iconst 0, 1) := by decide +kernel
theorem dX1_barnaclesAhead_3 : decode cX1_barnaclesAhead 3 = .ok (.istore_n 3, 1) := by decide +kernel
theorem dX1_barnaclesAhead_4 : decode cX1_barnaclesAhead 4 = .ok (.iload_n 3, 1) := by decide +kernel
theorem dX1_barnaclesAhead_5 : decode cX1_barnaclesAhead 5 = .ok (.aload_n 0, 1) := by decide +kernel
theorem dX1_barnaclesAhead_6 : decode cX1_barnaclesAhead 6 = .ok (.getfield 22, 3) := by decide +kernel
theorem dX1_barnaclesAhead_9 : decode cX1_barnaclesAhead 9 = .ok (.if_icmp .ge 86, 3) := by decide +kernel
theorem dX1_barnaclesAhead_12 : decode cX1_barnaclesAhead 12 = .ok (.aload_n 0, 1) := by decide +kernel
theorem dX1_barnaclesAhead_13 : decode cX1_barnaclesAhead 13 = .ok (.getfield 25, 3) := by decide +kernel
theorem dX1_barnaclesAhead_16 : decode cX1_barnaclesAhead 16 = .ok (.iload_n 3, 1) := by decide +kernel
theorem dX1_barnaclesAhead_17 : decode cX1_barnaclesAhead 17 = .ok (.iaload, 1) := by decide +kernel
theorem dX1_barnaclesAhead_18 : decode cX1_barnaclesAhead 18 = .ok (.aload_n 0, 1) := by decide +kernel
theorem dX1_barnaclesAhead_19 : decode cX1_barnaclesAhead 19 = .ok (.getfield 25, 3) := by decide +kernel
theorem dX1_barnaclesAhead_22 : decode cX1_barnaclesAhead 22 = .ok (.iload_n 1, 1) := by decide +kernel
theorem dX1_barnaclesAhead_23 : decode cX1_barnaclesAhead 23 = .ok (.iaload, 1) := by decide +kernel
theorem dX1_barnaclesAhead_24 : decode cX1_barnaclesAhead 24 = .ok (.if_icmp .le 7, 3) := by decide +kernel
theorem dX1_barnaclesAhead_27 : decode cX1_barnaclesAhead 27 = .ok (.iconst 1, 1) := by decide +kernel
theorem dX1_barnaclesAhead_28 : decode cX1_barnaclesAhead 28 = .ok (.goto 4, 3) := by decide +kernel
theorem dX1_barnaclesAhead_31 : decode cX1_barnaclesAhead 31 = .ok (.iconst 0, 1) := by decide +kernel
theorem dX1_barnaclesAhead_32 : decode cX1_barnaclesAhead 32 = .ok (.istore 4, 2) := by decide +kernel
theorem dX1_barnaclesAhead_34 : decode cX1_barnaclesAhead 34 = .ok (.aload_n 0, 1) := by decide +kernel
theorem dX1_barnaclesAhead_35 : decode cX1_barnaclesAhead 35 = .ok (.getfield 25, 3) := by decide +kernel
theorem dX1_barnaclesAhead_38 : decode cX1_barnaclesAhead 38 = .ok (.iload_n 3, 1) := by decide +kernel
theorem dX1_barnaclesAhead_39 : decode cX1_barnaclesAhead 39 = .ok (.iaload, 1) := by decide +kernel
theorem dX1_barnaclesAhead_40 : decode cX1_barnaclesAhead 40 = .ok (.aload_n 0, 1) := by decide +kernel
theorem dX1_barnaclesAhead_41 : decode cX1_barnaclesAhead 41 = .ok (.getfield 25, 3) := by decide +kernel
theorem dX1_barnaclesAhead_44 : decode cX1_barnaclesAhead 44 = .ok (.iload_n 1, 1) := by decide +kernel
theorem dX1_barnaclesAhead_45 : decode cX1_barnaclesAhead 45 = .ok (.iaload, 1) := by decide +kernel
theorem dX1_barnaclesAhead_46 : decode cX1_barnaclesAhead 46 = .ok (.if_icmp .ne 12, 3) := by decide +kernel
theorem dX1_barnaclesAhead_49 : decode cX1_barnaclesAhead 49 = .ok (.iload_n 3, 1) := by decide +kernel
theorem dX1_barnaclesAhead_50 : decode cX1_barnaclesAhead 50 = .ok (.iload_n 1, 1) := by decide +kernel
theorem dX1_barnaclesAhead_51 : decode cX1_barnaclesAhead 51 = .ok (.if_icmp .ge 7, 3) := by decide +kernel
theorem dX1_barnaclesAhead_54 : decode cX1_barnaclesAhead 54 = .ok (.iconst 1, 1) := by decide +kernel
theorem dX1_barnaclesAhead_55 : decode cX1_barnaclesAhead 55 = .ok (.goto 4, 3) := by decide +kernel
theorem dX1_barnaclesAhead_58 : decode cX1_barnaclesAhead 58 = .ok (.iconst 0, 1) := by decide +kernel
theorem dX1_barnaclesAhead_59 : decode cX1_barnaclesAhead 59 = .ok (.istore 5, 2) := by decide +kernel
theorem dX1_barnaclesAhead_61 : decode cX1_barnaclesAhead 61 = .ok (.aload_n 0, 1) := by decide +kernel
theorem dX1_barnaclesAhead_62 : decode cX1_barnaclesAhead 62 = .ok (.getfield 28, 3) := by decide +kernel
theorem dX1_barnaclesAhead_65 : decode cX1_barnaclesAhead 65 = .ok (.iload_n 3, 1) := by decide +kernel
theorem dX1_barnaclesAhead_66 : decode cX1_barnaclesAhead 66 = .ok (.iaload, 1) := by decide +kernel
theorem dX1_barnaclesAhead_67 : decode cX1_barnaclesAhead 67 = .ok (.aload_n 0, 1) := by decide +kernel
theorem dX1_barnaclesAhead_68 : decode cX1_barnaclesAhead 68 = .ok (.getfield 28, 3) := by decide +kernel
theorem dX1_barnaclesAhead_71 : decode cX1_barnaclesAhead 71 = .ok (.iload_n 1, 1) := by decide +kernel
theorem dX1_barnaclesAhead_72 : decode cX1_barnaclesAhead 72 = .ok (.iaload, 1) := by decide +kernel
theorem dX1_barnaclesAhead_73 : decode cX1_barnaclesAhead 73 = .ok (.if_icmp .ne 16, 3) := by decide +kernel
theorem dX1_barnaclesAhead_76 : decode cX1_barnaclesAhead 76 = .ok (.iload 4, 2) := by decide +kernel
theorem dX1_barnaclesAhead_78 : decode cX1_barnaclesAhead 78 = .ok (.ifCond .ne 8, 3) := by decide +kernel
theorem dX1_barnaclesAhead_81 : decode cX1_barnaclesAhead 81 = .ok (.iload 5, 2) := by decide +kernel
theorem dX1_barnaclesAhead_83 : decode cX1_barnaclesAhead 83 = .ok (.ifCond .eq 6, 3) := by decide +kernel
theorem dX1_barnaclesAhead_86 : decode cX1_barnaclesAhead 86 = .ok (.iinc 2 1, 3) := by decide +kernel
theorem dX1_barnaclesAhead_89 : decode cX1_barnaclesAhead 89 = .ok (.iinc 3 1, 3) := by decide +kernel
theorem dX1_barnaclesAhead_92 : decode cX1_barnaclesAhead 92 = .ok (.goto (-88), 3) := by decide +kernel
theorem dX1_barnaclesAhead_95 : decode cX1_barnaclesAhead 95 = .ok (.iload_n 2, 1) := by decide +kernel
theorem dX1_barnaclesAhead_96 : decode cX1_barnaclesAhead 96 = .ok (.ireturn, 1) := by decide +kernel
theorem dX1_shipInOrder_0 : decode cX1_shipInOrder 0 = .ok (.iconst 0, 1) := by decide +kernel
theorem dX1_shipInOrder_1 : decode cX1_shipInOrder 1 = .ok (.istore_n 2, 1) := by decide +kernel
theorem dX1_shipInOrder_2 : decode cX1_shipInOrder 2 = .ok (.iload_n 2, 1) := by decide +kernel
theorem dX1_shipInOrder_3 : decode cX1_shipInOrder 3 = .ok (.aload_n 0, 1) := by decide +kernel
theorem dX1_shipInOrder_4 : decode cX1_shipInOrder 4 = .ok (.getfield 9, 3) := by decide +kernel
theorem dX1_shipInOrder_7 : decode cX1_shipInOrder 7 = .ok (.if_icmp .ge 20, 3) := by decide +kernel
theorem dX1_shipInOrder_10 : decode cX1_shipInOrder 10 = .ok (.aload_n 0, 1) := by decide +kernel
theorem dX1_shipInOrder_11 : decode cX1_shipInOrder 11 = .ok (.iload_n 2, 1) := by decide +kernel
theorem dX1_shipInOrder_12 : decode cX1_shipInOrder 12 = .ok (.invokevirtual 41, 3) := by decide +kernel
theorem dX1_shipInOrder_15 : decode cX1_shipInOrder 15 = .ok (.iload_n 1, 1) := by decide +kernel
theorem dX1_shipInOrder_16 : decode cX1_shipInOrder 16 = .ok (.if_icmp .ne 5, 3) := by decide +kernel
theorem dX1_shipInOrder_19 : decode cX1_shipInOrder 19 = .ok (.iload_n 2, 1) := by decide +kernel
theorem dX1_shipInOrder_20 : decode cX1_shipInOrder 20 = .ok (.ireturn, 1) := by decide +kernel
theorem dX1_shipInOrder_21 : decode cX1_shipInOrder 21 = .ok (.iinc 2 1, 3) := by decide +kernel
theorem dX1_shipInOrder_24 : decode cX1_shipInOrder 24 = .ok (.goto (-22), 3) := by decide +kernel
theorem dX1_shipInOrder_27 : decode cX1_shipInOrder 27 = .ok (.iconst (-1), 1) := by decide +kernel
theorem dX1_shipInOrder_28 : decode cX1_shipInOrder 28 = .ok (.ireturn, 1) := by decide +kernel
theorem dX1_shipsAhead_0 : decode cX1_shipsAhead 0 = .ok (.iconst 0, 1) := by decide +kernel
theorem dX1_shipsAhead_1 : decode cX1_shipsAhead 1 = .ok (.istore_n 2, 1) := by decide +kernel
theorem dX1_shipsAhead_2 : decode cX1_shipsAhead 2 = .ok (.iconst 0, 1) := by decide +kernel
theorem dX1_shipsAhead_3 : decode cX1_shipsAhead 3 = .ok (.istore_n 3, 1) := by decide +kernel
theorem dX1_shipsAhead_4 : decode cX1_shipsAhead 4 = .ok (.iload_n 3, 1) := by decide +kernel
theorem dX1_shipsAhead_5 : decode cX1_shipsAhead 5 = .ok (.aload_n 0, 1) := by decide +kernel
theorem dX1_shipsAhead_6 : decode cX1_shipsAhead 6 = .ok (.getfield 9, 3) := by decide +kernel
theorem dX1_shipsAhead_9 : decode cX1_shipsAhead 9 = .ok (.if_icmp .ge 21, 3) := by decide +kernel
theorem dX1_shipsAhead_12 : decode cX1_shipsAhead 12 = .ok (.aload_n 0, 1) := by decide +kernel
theorem dX1_shipsAhead_13 : decode cX1_shipsAhead 13 = .ok (.iload_n 3, 1) := by decide +kernel
theorem dX1_shipsAhead_14 : decode cX1_shipsAhead 14 = .ok (.iload_n 1, 1) := by decide +kernel
theorem dX1_shipsAhead_15 : decode cX1_shipsAhead 15 = .ok (.invokevirtual 44, 3) := by decide +kernel
theorem dX1_shipsAhead_18 : decode cX1_shipsAhead 18 = .ok (.ifCond .eq 6, 3) := by decide +kernel
theorem dX1_shipsAhead_21 : decode cX1_shipsAhead 21 = .ok (.iinc 2 1, 3) := by decide +kernel
theorem dX1_shipsAhead_24 : decode cX1_shipsAhead 24 = .ok (.iinc 3 1, 3) := by decide +kernel
theorem dX1_shipsAhead_27 : decode cX1_shipsAhead 27 = .ok (.goto (-23), 3) := by decide +kernel
theorem dX1_shipsAhead_30 : decode cX1_shipsAhead 30 = .ok (.iload_n 2, 1) := by decide +kernel
theorem dX1_shipsAhead_31 : decode cX1_shipsAhead 31 = .ok (.ireturn, 1) := by decide +kernel
theorem dX1_isWealthier_0 : decode cX1_isWealthier 0 = .ok (.aload_n 0, 1) := by decide +kernel
theorem dX1_isWealthier_1 : decode cX1_isWealthier 1 = .ok (.iload_n 1, 1) := by decide +kernel
theorem dX1_isWealthier_2 : decode cX1_isWealthier 2 = .ok (.invokevirtual 48, 3) := by decide +kernel
theorem dX1_isWealthier_5 : decode cX1_isWealthier 5 = .ok (.istore_n 3, 1) := by decide +kernel
theorem dX1_isWealthier_6 : decode cX1_isWealthier 6 = .ok (.aload_n 0, 1) := by decide +kernel
theorem dX1_isWealthier_7 : decode cX1_isWealthier 7 = .ok (.iload_n 2, 1) := by decide +kernel
theorem dX1_isWealthier_8 : decode cX1_isWealthier 8 = .ok (.invokevirtual 48, 3) := by decide +kernel
theorem dX1_isWealthier_11 : decode cX1_isWealthier 11 = .ok (.istore 4, 2) := by decide +kernel
theorem dX1_isWealthier_13 : decode cX1_isWealthier 13 = .ok (.iload_n 3, 1) := by decide +kernel
theorem dX1_isWealthier_14 : decode cX1_isWealthier 14 = .ok (.iload 4, 2) := by decide +kernel
theorem dX1_isWealthier_16 : decode cX1_isWealthier 16 = .ok (.if_icmp .eq 15, 3) := by decide +kernel
theorem dX1_isWealthier_19 : decode cX1_isWealthier 19 = .ok (.iload_n 3, 1) := by decide +kernel
theorem dX1_isWealthier_20 : decode cX1_isWealthier 20 = .ok (.iload 4, 2) := by decide +kernel
theorem dX1_isWealthier_22 : decode cX1_isWealthier 22 = .ok (.if_icmp .le 7, 3) := by decide +kernel
theorem dX1_isWealthier_25 : decode cX1_isWealthier 25 = .ok (.iconst 1, 1) := by decide +kernel
theorem dX1_isWealthier_26 : decode cX1_isWealthier 26 = .ok (.goto 4, 3) := by decide +kernel
theorem dX1_isWealthier_29 : decode cX1_isWealthier 29 = .ok (.iconst 0, 1) := by decide +kernel
theorem dX1_isWealthier_30 : decode cX1_isWealthier 30 = .ok (.ireturn, 1) := by decide +kernel
theorem dX1_isWealthier_31 : decode cX1_isWealthier 31 = .ok (.aload_n 0, 1) := by decide +kernel
theorem dX1_isWealthier_32 : decode cX1_isWealthier 32 = .ok (.iload_n 1, 1) := by decide +kernel
theorem dX1_isWealthier_33 : decode cX1_isWealthier 33 = .ok (.invokevirtual 51, 3) := by decide +kernel
theorem dX1_isWealthier_36 : decode cX1_isWealthier 36 = .ok (.istore 5, 2) := by decide +kernel
theorem dX1_isWealthier_38 : decode cX1_isWealthier 38 = .ok (.aload_n 0, 1) := by decide +kernel
theorem dX1_isWealthier_39 : decode cX1_isWealthier 39 = .ok (.iload_n 2, 1) := by decide +kernel
theorem dX1_isWealthier_40 : decode cX1_isWealthier 40 = .ok (.invokevirtual 51, 3) := by decide +kernel
theorem dX1_isWealthier_43 : decode cX1_isWealthier 43 = .ok (.istore 6, 2) := by decide +kernel
theorem dX1_isWealthier_45 : decode cX1_isWealthier 45 = .ok (.iload 5, 2) := by decide +kernel
theorem dX1_isWealthier_47 : decode cX1_isWealthier 47 = .ok (.iload 6, 2) := by decide +kernel
theorem dX1_isWealthier_49 : decode cX1_isWealthier 49 = .ok (.if_icmp .eq 16, 3) := by decide +kernel
theorem dX1_isWealthier_52 : decode cX1_isWealthier 52 = .ok (.iload 5, 2) := by decide +kernel
theorem dX1_isWealthier_54 : decode cX1_isWealthier 54 = .ok (.iload 6, 2) := by decide +kernel
theorem dX1_isWealthier_56 : decode cX1_isWealthier 56 = .ok (.if_icmp .le 7, 3) := by decide +kernel
theorem dX1_isWealthier_59 : decode cX1_isWealthier 59 = .ok (.iconst 1, 1) := by decide +kernel
theorem dX1_isWealthier_60 : decode cX1_isWealthier 60 = .ok (.goto 4, 3) := by decide +kernel
theorem dX1_isWealthier_63 : decode cX1_isWealthier 63 = .ok (.iconst 0, 1) := by decide +kernel
theorem dX1_isWealthier_64 : decode cX1_isWealthier 64 = .ok (.ireturn, 1) := by decide +kernel
theorem dX1_isWealthier_65 : decode cX1_isWealthier 65 = .ok (.iload_n 1, 1) := by decide +kernel
theorem dX1_isWealthier_66 : decode cX1_isWealthier 66 = .ok (.iload_n 2, 1) := by decide +kernel
theorem dX1_isWealthier_67 : decode cX1_isWealthier 67 = .ok (.if_icmp .ge 7, 3) := by decide +kernel
theorem dX1_isWealthier_70 : decode cX1_isWealthier 70 = .ok (.iconst 1, 1) := by decide +kernel
theorem dX1_isWealthier_71 : decode cX1_isWealthier 71 = .ok (.goto 4, 3) := by decide +kernel
theorem dX1_isWealthier_74 : decode cX1_isWealthier 74 = .ok (.iconst 0, 1) := by decide +kernel
theorem dX1_isWealthier_75 : decode cX1_isWealthier 75 = .ok (.ireturn, 1) := by decide +kernel
theorem dX1_wealthOf_0 : decode cX1_wealthOf 0 = .ok (.aload_n 0, 1) := by decide +kernel
theorem dX1_wealthOf_1 : decode cX1_wealthOf 1 = .ok (.getfield 15, 3) := by decide +kernel
theorem dX1_wealthOf_4 : decode cX1_wealthOf 4 = .ok (.iload_n 1, 1) := by decide +kernel
theorem dX1_wealthOf_5 : decode cX1_wealthOf 5 = .ok (.iaload, 1) := by decide +kernel
theorem dX1_wealthOf_6 : decode cX1_wealthOf 6 = .ok (.istore_n 2, 1) := by decide +kernel
theorem dX1_wealthOf_7 : decode cX1_wealthOf 7 = .ok (.iconst 0, 1) := by decide +kernel
theorem dX1_wealthOf_8 : decode cX1_wealthOf 8 = .ok (.istore_n 3, 1) := by decide +kernel
theorem dX1_wealthOf_9 : decode cX1_wealthOf 9 = .ok (.iload_n 3, 1) := by decide +kernel
theorem dX1_wealthOf_10 : decode cX1_wealthOf 10 = .ok (.aload_n 0, 1) := by decide +kernel
theorem dX1_wealthOf_11 : decode cX1_wealthOf 11 = .ok (.getfield 22, 3) := by decide +kernel
theorem dX1_wealthOf_14 : decode cX1_wealthOf 14 = .ok (.if_icmp .ge 28, 3) := by decide +kernel
theorem dX1_wealthOf_17 : decode cX1_wealthOf 17 = .ok (.aload_n 0, 1) := by decide +kernel
theorem dX1_wealthOf_18 : decode cX1_wealthOf 18 = .ok (.getfield 28, 3) := by decide +kernel
theorem dX1_wealthOf_21 : decode cX1_wealthOf 21 = .ok (.iload_n 3, 1) := by decide +kernel
theorem dX1_wealthOf_22 : decode cX1_wealthOf 22 = .ok (.iaload, 1) := by decide +kernel
theorem dX1_wealthOf_23 : decode cX1_wealthOf 23 = .ok (.iload_n 1, 1) := by decide +kernel
theorem dX1_wealthOf_24 : decode cX1_wealthOf 24 = .ok (.if_icmp .ne 12, 3) := by decide +kernel
theorem dX1_wealthOf_27 : decode cX1_wealthOf 27 = .ok (.iload_n 2, 1) := by decide +kernel
theorem dX1_wealthOf_28 : decode cX1_wealthOf 28 = .ok (.aload_n 0, 1) := by decide +kernel
theorem dX1_wealthOf_29 : decode cX1_wealthOf 29 = .ok (.getfield 25, 3) := by decide +kernel
theorem dX1_wealthOf_32 : decode cX1_wealthOf 32 = .ok (.iload_n 3, 1) := by decide +kernel
theorem dX1_wealthOf_33 : decode cX1_wealthOf 33 = .ok (.iaload, 1) := by decide +kernel
theorem dX1_wealthOf_34 : decode cX1_wealthOf 34 = .ok (.iadd, 1) := by decide +kernel
theorem dX1_wealthOf_35 : decode cX1_wealthOf 35 = .ok (.istore_n 2, 1) := by decide +kernel
theorem dX1_wealthOf_36 : decode cX1_wealthOf 36 = .ok (.iinc 3 1, 3) := by decide +kernel
theorem dX1_wealthOf_39 : decode cX1_wealthOf 39 = .ok (.goto (-30), 3) := by decide +kernel
theorem dX1_wealthOf_42 : decode cX1_wealthOf 42 = .ok (.iload_n 2, 1) := by decide +kernel
theorem dX1_wealthOf_43 : decode cX1_wealthOf 43 = .ok (.ireturn, 1) := by decide +kernel
theorem dX1_coinSum_0 : decode cX1_coinSum 0 = .ok (.iconst 0, 1) := by decide +kernel
theorem dX1_coinSum_1 : decode cX1_coinSum 1 = .ok (.istore_n 1, 1) := by decide +kernel
theorem dX1_coinSum_2 : decode cX1_coinSum 2 = .ok (.iconst 0, 1) := by decide +kernel
theorem dX1_coinSum_3 : decode cX1_coinSum 3 = .ok (.istore_n 2, 1) := by decide +kernel
theorem dX1_coinSum_4 : decode cX1_coinSum 4 = .ok (.iload_n 2, 1) := by decide +kernel
theorem dX1_coinSum_5 : decode cX1_coinSum 5 = .ok (.aload_n 0, 1) := by decide +kernel
theorem dX1_coinSum_6 : decode cX1_coinSum 6 = .ok (.getfield 9, 3) := by decide +kernel
theorem dX1_coinSum_9 : decode cX1_coinSum 9 = .ok (.if_icmp .ge 18, 3) := by decide +kernel
theorem dX1_coinSum_12 : decode cX1_coinSum 12 = .ok (.iload_n 1, 1) := by decide +kernel
theorem dX1_coinSum_13 : decode cX1_coinSum 13 = .ok (.aload_n 0, 1) := by decide +kernel
theorem dX1_coinSum_14 : decode cX1_coinSum 14 = .ok (.getfield 15, 3) := by decide +kernel
theorem dX1_coinSum_17 : decode cX1_coinSum 17 = .ok (.iload_n 2, 1) := by decide +kernel
theorem dX1_coinSum_18 : decode cX1_coinSum 18 = .ok (.iaload, 1) := by decide +kernel
theorem dX1_coinSum_19 : decode cX1_coinSum 19 = .ok (.iadd, 1) := by decide +kernel
theorem dX1_coinSum_20 : decode cX1_coinSum 20 = .ok (.istore_n 1, 1) := by decide +kernel
theorem dX1_coinSum_21 : decode cX1_coinSum 21 = .ok (.iinc 2 1, 3) := by decide +kernel
theorem dX1_coinSum_24 : decode cX1_coinSum 24 = .ok (.goto (-20), 3) := by decide +kernel
theorem dX1_coinSum_27 : decode cX1_coinSum 27 = .ok (.iload_n 1, 1) := by decide +kernel
theorem dX1_coinSum_28 : decode cX1_coinSum 28 = .ok (.ireturn, 1) := by decide +kernel
theorem dX2_init_0 : decode cX2_init 0 = .ok (.aload_n 0, 1) := by decide +kernel
theorem dX2_init_1 : decode cX2_init 1 = .ok (.invokespecial 1, 3) := by decide +kernel
theorem dX2_init_4 : decode cX2_init 4 = .ok (.aload_n 0, 1) := by decide +kernel
theorem dX2_init_5 : decode cX2_init 5 = .ok (.iconst 0, 1) := by decide +kernel
theorem dX2_init_6 : decode cX2_init 6 = .ok (.putfield 7, 3) := by decide +kernel
theorem dX2_init_9 : decode cX2_init 9 = .ok (.aload_n 0, 1) := by decide +kernel
theorem dX2_init_10 : decode cX2_init 10 = .ok (.iconst 0, 1) := by decide +kernel
theorem dX2_init_11 : decode cX2_init 11 = .ok (.putfield 13, 3) := by decide +kernel
theorem dX2_init_14 : decode cX2_init 14 = .ok (.aload_n 0, 1) := by decide +kernel
theorem dX2_init_15 : decode cX2_init 15 = .ok (.bipush 8, 2) := by decide +kernel
theorem dX2_init_17 : decode cX2_init 17 = .ok (.anewarray 16, 3) := by decide +kernel
theorem dX2_init_20 : decode cX2_init 20 = .ok (.putfield 18, 3) := by decide +kernel
theorem dX2_init_23 : decode cX2_init 23 = .ok (.iconst 0, 1) := by decide +kernel
theorem dX2_init_24 : decode cX2_init 24 = .ok (.istore_n 1, 1) := by decide +kernel
theorem dX2_init_25 : decode cX2_init 25 = .ok (.iload_n 1, 1) := by decide +kernel
theorem dX2_init_26 : decode cX2_init 26 = .ok (.bipush 8, 2) := by decide +kernel
theorem dX2_init_28 : decode cX2_init 28 = .ok (.if_icmp .ge 22, 3) := by decide +kernel
theorem dX2_init_31 : decode cX2_init 31 = .ok (.aload_n 0, 1) := by decide +kernel
theorem dX2_init_32 : decode cX2_init 32 = .ok (.getfield 18, 3) := by decide +kernel
theorem dX2_init_35 : decode cX2_init 35 = .ok (.iload_n 1, 1) := by decide +kernel
theorem dX2_init_36 : decode cX2_init 36 = .ok (.new 16, 3) := by decide +kernel
theorem dX2_init_39 : decode cX2_init 39 = .ok (.dup, 1) := by decide +kernel
theorem dX2_init_40 : decode cX2_init 40 = .ok (.invokespecial 22, 3) := by decide +kernel
theorem dX2_init_43 : decode cX2_init 43 = .ok (.aastore, 1) := by decide +kernel
theorem dX2_init_44 : decode cX2_init 44 = .ok (.iinc 1 1, 3) := by decide +kernel
theorem dX2_init_47 : decode cX2_init 47 = .ok (.goto (-22), 3) := by decide +kernel
theorem dX2_init_50 : decode cX2_init 50 = .ok (.return_, 1) := by decide +kernel
theorem dX2_remember_0 : decode cX2_remember 0 = .ok (.aload_n 0, 1) := by decide +kernel
theorem dX2_remember_1 : decode cX2_remember 1 = .ok (.getfield 18, 3) := by decide +kernel
theorem dX2_remember_4 : decode cX2_remember 4 = .ok (.aload_n 0, 1) := by decide +kernel
theorem dX2_remember_5 : decode cX2_remember 5 = .ok (.getfield 13, 3) := by decide +kernel
theorem dX2_remember_8 : decode cX2_remember 8 = .ok (.aaload, 1) := by decide +kernel
theorem dX2_remember_9 : decode cX2_remember 9 = .ok (.aload_n 1, 1) := by decide +kernel
theorem dX2_remember_10 : decode cX2_remember 10 = .ok (.invokevirtual 23, 3) := by decide +kernel
theorem dX2_remember_13 : decode cX2_remember 13 = .ok (.aload_n 0, 1) := by decide +kernel
theorem dX2_remember_14 : decode cX2_remember 14 = .ok (.aload_n 0, 1) := by decide +kernel
theorem dX2_remember_15 : decode cX2_remember 15 = .ok (.getfield 13, 3) := by decide +kernel
theorem dX2_remember_18 : decode cX2_remember 18 = .ok (.iconst 1, 1) := by decide +kernel
theorem dX2_remember_19 : decode cX2_remember 19 = .ok (.iadd, 1) := by decide +kernel
theorem dX2_remember_20 : decode cX2_remember 20 = .ok (.bipush 8, 2) := by decide +kernel
theorem dX2_remember_22 : decode cX2_remember 22 = .ok (.irem, 1) := by decide +kernel
theorem dX2_remember_23 : decode cX2_remember 23 = .ok (.putfield 13, 3) := by decide +kernel
theorem dX2_remember_26 : decode cX2_remember 26 = .ok (.aload_n 0, 1) := by decide +kernel
theorem dX2_remember_27 : decode cX2_remember 27 = .ok (.aload_n 0, 1) := by decide +kernel
theorem dX2_remember_28 : decode cX2_remember 28 = .ok (.getfield 7, 3) := by decide +kernel
theorem dX2_remember_31 : decode cX2_remember 31 = .ok (.iconst 1, 1) := by decide +kernel
theorem dX2_remember_32 : decode cX2_remember 32 = .ok (.iadd, 1) := by decide +kernel
theorem dX2_remember_33 : decode cX2_remember 33 = .ok (.bipush 8, 2) := by decide +kernel
theorem dX2_remember_35 : decode cX2_remember 35 = .ok (.invokestatic 27, 3) := by decide +kernel
theorem dX2_remember_38 : decode cX2_remember 38 = .ok (.putfield 7, 3) := by decide +kernel
theorem dX2_remember_41 : decode cX2_remember 41 = .ok (.return_, 1) := by decide +kernel
theorem dX2_bringBack_0 : decode cX2_bringBack 0 = .ok (.aload_n 0, 1) := by decide +kernel
theorem dX2_bringBack_1 : decode cX2_bringBack 1 = .ok (.aload_n 0, 1) := by decide +kernel
theorem dX2_bringBack_2 : decode cX2_bringBack 2 = .ok (.getfield 13, 3) := by decide +kernel
theorem dX2_bringBack_5 : decode cX2_bringBack 5 = .ok (.bipush 8, 2) := by decide +kernel
theorem dX2_bringBack_7 : decode cX2_bringBack 7 = .ok (.iadd, 1) := by decide +kernel
theorem dX2_bringBack_8 : decode cX2_bringBack 8 = .ok (.iconst 1, 1) := by decide +kernel
theorem dX2_bringBack_9 : decode cX2_bringBack 9 = .ok (.isub, 1) := by decide +kernel
theorem dX2_bringBack_10 : decode cX2_bringBack 10 = .ok (.bipush 8, 2) := by decide +kernel
theorem dX2_bringBack_12 : decode cX2_bringBack 12 = .ok (.irem, 1) := by decide +kernel
theorem dX2_bringBack_13 : decode cX2_bringBack 13 = .ok (.putfield 13, 3) := by decide +kernel
theorem dX2_bringBack_16 : decode cX2_bringBack 16 = .ok (.aload_n 0, 1) := by decide +kernel
theorem dX2_bringBack_17 : decode cX2_bringBack 17 = .ok (.dup, 1) := by decide +kernel
theorem dX2_bringBack_18 : decode cX2_bringBack 18 = .ok (.getfield 7, 3) := by decide +kernel
theorem dX2_bringBack_21 : decode cX2_bringBack 21 = .ok (.iconst 1, 1) := by decide +kernel
theorem dX2_bringBack_22 : decode cX2_bringBack 22 = .ok (.isub, 1) := by decide +kernel
theorem dX2_bringBack_23 : decode cX2_bringBack 23 = .ok (.putfield 7, 3) := by decide +kernel
theorem dX2_bringBack_26 : decode cX2_bringBack 26 = .ok (.aload_n 1, 1) := by decide +kernel
theorem dX2_bringBack_27 : decode cX2_bringBack 27 = .ok (.aload_n 0, 1) := by decide +kernel
theorem dX2_bringBack_28 : decode cX2_bringBack 28 = .ok (.getfield 18, 3) := by decide +kernel
theorem dX2_bringBack_31 : decode cX2_bringBack 31 = .ok (.aload_n 0, 1) := by decide +kernel
theorem dX2_bringBack_32 : decode cX2_bringBack 32 = .ok (.getfield 13, 3) := by decide +kernel
theorem dX2_bringBack_35 : decode cX2_bringBack 35 = .ok (.aaload, 1) := by decide +kernel
theorem dX2_bringBack_36 : decode cX2_bringBack 36 = .ok (.invokevirtual 23, 3) := by decide +kernel
theorem dX2_bringBack_39 : decode cX2_bringBack 39 = .ok (.return_, 1) := by decide +kernel
theorem dX3_init_0 : decode cX3_init 0 = .ok (.aload_n 0, 1) := by decide +kernel
theorem dX3_init_1 : decode cX3_init 1 = .ok (.invokespecial 3, 3) := by decide +kernel
theorem dX3_init_4 : decode cX3_init 4 = .ok (.aload_n 0, 1) := by decide +kernel
theorem dX3_init_5 : decode cX3_init 5 = .ok (.new 9, 3) := by decide +kernel
theorem dX3_init_8 : decode cX3_init 8 = .ok (.dup, 1) := by decide +kernel
theorem dX3_init_9 : decode cX3_init 9 = .ok (.invokespecial 11, 3) := by decide +kernel
theorem dX3_init_12 : decode cX3_init 12 = .ok (.putfield 12, 3) := by decide +kernel
theorem dX3_init_15 : decode cX3_init 15 = .ok (.aload_n 0, 1) := by decide +kernel
theorem dX3_init_16 : decode cX3_init 16 = .ok (.new 18, 3) := by decide +kernel
theorem dX3_init_19 : decode cX3_init 19 = .ok (.dup, 1) := by decide +kernel
theorem dX3_init_20 : decode cX3_init 20 = .ok (.invokespecial 20, 3) := by decide +kernel
theorem dX3_init_23 : decode cX3_init 23 = .ok (.putfield 21, 3) := by decide +kernel
theorem dX3_init_26 : decode cX3_init 26 = .ok (.aload_n 0, 1) := by decide +kernel
theorem dX3_init_27 : decode cX3_init 27 = .ok (.new 25, 3) := by decide +kernel
theorem dX3_init_30 : decode cX3_init 30 = .ok (.dup, 1) := by decide +kernel
theorem dX3_init_31 : decode cX3_init 31 = .ok (.invokespecial 27, 3) := by decide +kernel
theorem dX3_init_34 : decode cX3_init 34 = .ok (.putfield 28, 3) := by decide +kernel
theorem dX3_init_37 : decode cX3_init 37 = .ok (.aload_n 0, 1) := by decide +kernel
theorem dX3_init_38 : decode cX3_init 38 = .ok (.new 31, 3) := by decide +kernel
theorem dX3_init_41 : decode cX3_init 41 = .ok (.dup, 1) := by decide +kernel
theorem dX3_init_42 : decode cX3_init 42 = .ok (.invokespecial 33, 3) := by decide +kernel
theorem dX3_init_45 : decode cX3_init 45 = .ok (.putfield 34, 3) := by decide +kernel
theorem dX3_init_48 : decode cX3_init 48 = .ok (.aload_n 0, 1) := by decide +kernel
theorem dX3_init_49 : decode cX3_init 49 = .ok (.iconst 1, 1) := by decide +kernel
theorem dX3_init_50 : decode cX3_init 50 = .ok (.putfield 38, 3) := by decide +kernel
theorem dX3_init_53 : decode cX3_init 53 = .ok (.aload_n 0, 1) := by decide +kernel
theorem dX3_init_54 : decode cX3_init 54 = .ok (.iconst 0, 1) := by decide +kernel
theorem dX3_init_55 : decode cX3_init 55 = .ok (.putfield 42, 3) := by decide +kernel
theorem dX3_init_58 : decode cX3_init 58 = .ok (.aload_n 0, 1) := by decide +kernel
theorem dX3_init_59 : decode cX3_init 59 = .ok (.iconst 0, 1) := by decide +kernel
theorem dX3_init_60 : decode cX3_init 60 = .ok (.putfield 45, 3) := by decide +kernel
theorem dX3_init_63 : decode cX3_init 63 = .ok (.aload_n 0, 1) := by decide +kernel
theorem dX3_init_64 : decode cX3_init 64 = .ok (.iconst 0, 1) := by decide +kernel
theorem dX3_init_65 : decode cX3_init 65 = .ok (.putfield 48, 3) := by decide +kernel
theorem dX3_init_68 : decode cX3_init 68 = .ok (.aload_n 0, 1) := by decide +kernel
theorem dX3_init_69 : decode cX3_init 69 = .ok (.iconst 0, 1) := by decide +kernel
theorem dX3_init_70 : decode cX3_init 70 = .ok (.putfield 51, 3) := by decide +kernel
theorem dX3_init_73 : decode cX3_init 73 = .ok (.return_, 1) := by decide +kernel
theorem dX3_copyFrom_0 : decode cX3_copyFrom 0 = .ok (.aload_n 0, 1) := by decide +kernel
theorem dX3_copyFrom_1 : decode cX3_copyFrom 1 = .ok (.getfield 12, 3) := by decide +kernel
theorem dX3_copyFrom_4 : decode cX3_copyFrom 4 = .ok (.aload_n 1, 1) := by decide +kernel
theorem dX3_copyFrom_5 : decode cX3_copyFrom 5 = .ok (.getfield 12, 3) := by decide +kernel
theorem dX3_copyFrom_8 : decode cX3_copyFrom 8 = .ok (.invokevirtual 54, 3) := by decide +kernel
theorem dX3_copyFrom_11 : decode cX3_copyFrom 11 = .ok (.aload_n 0, 1) := by decide +kernel
theorem dX3_copyFrom_12 : decode cX3_copyFrom 12 = .ok (.getfield 21, 3) := by decide +kernel
theorem dX3_copyFrom_15 : decode cX3_copyFrom 15 = .ok (.aload_n 1, 1) := by decide +kernel
theorem dX3_copyFrom_16 : decode cX3_copyFrom 16 = .ok (.getfield 21, 3) := by decide +kernel
theorem dX3_copyFrom_19 : decode cX3_copyFrom 19 = .ok (.invokevirtual 58, 3) := by decide +kernel
theorem dX3_copyFrom_22 : decode cX3_copyFrom 22 = .ok (.aload_n 0, 1) := by decide +kernel
theorem dX3_copyFrom_23 : decode cX3_copyFrom 23 = .ok (.getfield 28, 3) := by decide +kernel
theorem dX3_copyFrom_26 : decode cX3_copyFrom 26 = .ok (.aload_n 1, 1) := by decide +kernel
theorem dX3_copyFrom_27 : decode cX3_copyFrom 27 = .ok (.getfield 28, 3) := by decide +kernel
theorem dX3_copyFrom_30 : decode cX3_copyFrom 30 = .ok (.invokevirtual 58, 3) := by decide +kernel
theorem dX3_copyFrom_33 : decode cX3_copyFrom 33 = .ok (.aload_n 0, 1) := by decide +kernel
theorem dX3_copyFrom_34 : decode cX3_copyFrom 34 = .ok (.getfield 34, 3) := by decide +kernel
theorem dX3_copyFrom_37 : decode cX3_copyFrom 37 = .ok (.aload_n 1, 1) := by decide +kernel
theorem dX3_copyFrom_38 : decode cX3_copyFrom 38 = .ok (.getfield 34, 3) := by decide +kernel
theorem dX3_copyFrom_41 : decode cX3_copyFrom 41 = .ok (.invokevirtual 63, 3) := by decide +kernel
theorem dX3_copyFrom_44 : decode cX3_copyFrom 44 = .ok (.aload_n 0, 1) := by decide +kernel
theorem dX3_copyFrom_45 : decode cX3_copyFrom 45 = .ok (.aload_n 1, 1) := by decide +kernel
theorem dX3_copyFrom_46 : decode cX3_copyFrom 46 = .ok (.getfield 38, 3) := by decide +kernel
theorem dX3_copyFrom_49 : decode cX3_copyFrom 49 = .ok (.putfield 38, 3) := by decide +kernel
theorem dX3_copyFrom_52 : decode cX3_copyFrom 52 = .ok (.aload_n 0, 1) := by decide +kernel
theorem dX3_copyFrom_53 : decode cX3_copyFrom 53 = .ok (.aload_n 1, 1) := by decide +kernel
theorem dX3_copyFrom_54 : decode cX3_copyFrom 54 = .ok (.getfield 42, 3) := by decide +kernel
theorem dX3_copyFrom_57 : decode cX3_copyFrom 57 = .ok (.putfield 42, 3) := by decide +kernel
theorem dX3_copyFrom_60 : decode cX3_copyFrom 60 = .ok (.aload_n 0, 1) := by decide +kernel
theorem dX3_copyFrom_61 : decode cX3_copyFrom 61 = .ok (.aload_n 1, 1) := by decide +kernel
theorem dX3_copyFrom_62 : decode cX3_copyFrom 62 = .ok (.getfield 45, 3) := by decide +kernel
theorem dX3_copyFrom_65 : decode cX3_copyFrom 65 = .ok (.putfield 45, 3) := by decide +kernel
theorem dX3_copyFrom_68 : decode cX3_copyFrom 68 = .ok (.aload_n 0, 1) := by decide +kernel
theorem dX3_copyFrom_69 : decode cX3_copyFrom 69 = .ok (.aload_n 1, 1) := by decide +kernel
theorem dX3_copyFrom_70 : decode cX3_copyFrom 70 = .ok (.getfield 48, 3) := by decide +kernel
theorem dX3_copyFrom_73 : decode cX3_copyFrom 73 = .ok (.putfield 48, 3) := by decide +kernel
theorem dX3_copyFrom_76 : decode cX3_copyFrom 76 = .ok (.aload_n 0, 1) := by decide +kernel
theorem dX3_copyFrom_77 : decode cX3_copyFrom 77 = .ok (.aload_n 1, 1) := by decide +kernel
theorem dX3_copyFrom_78 : decode cX3_copyFrom 78 = .ok (.getfield 51, 3) := by decide +kernel
theorem dX3_copyFrom_81 : decode cX3_copyFrom 81 = .ok (.putfield 51, 3) := by decide +kernel
theorem dX3_copyFrom_84 : decode cX3_copyFrom 84 = .ok (.return_, 1) := by decide +kernel
theorem dX3_judge_0 : decode cX3_judge 0 = .ok (.iload_n 1, 1) := by decide +kernel
theorem dX3_judge_1 : decode cX3_judge 1 = .ok (.tableswitch 207 97 121 #[122, 136, 129, 207, 207, 190, 207, 207, 207, 207, 207, 207, 207, 207, 145, 207, 207, 207, 115, 207, 207, 207, 207, 152, 171], 115) := by decide +kernel
theorem dX3_judge_116 : decode cX3_judge 116 = .ok (.aload_n 0, 1) := by decide +kernel
theorem dX3_judge_117 : decode cX3_judge 117 = .ok (.iload_n 2, 1) := by decide +kernel
theorem dX3_judge_118 : decode cX3_judge 118 = .ok (.iload_n 3, 1) := by decide +kernel
theorem dX3_judge_119 : decode cX3_judge 119 = .ok (.invokevirtual 66, 3) := by decide +kernel
theorem dX3_judge_122 : decode cX3_judge 122 = .ok (.ireturn, 1) := by decide +kernel
theorem dX3_judge_123 : decode cX3_judge 123 = .ok (.aload_n 0, 1) := by decide +kernel
theorem dX3_judge_124 : decode cX3_judge 124 = .ok (.iload_n 2, 1) := by decide +kernel
theorem dX3_judge_125 : decode cX3_judge 125 = .ok (.iload_n 3, 1) := by decide +kernel
theorem dX3_judge_126 : decode cX3_judge 126 = .ok (.invokevirtual 70, 3) := by decide +kernel
theorem dX3_judge_129 : decode cX3_judge 129 = .ok (.ireturn, 1) := by decide +kernel
theorem dX3_judge_130 : decode cX3_judge 130 = .ok (.aload_n 0, 1) := by decide +kernel
theorem dX3_judge_131 : decode cX3_judge 131 = .ok (.iload_n 2, 1) := by decide +kernel
theorem dX3_judge_132 : decode cX3_judge 132 = .ok (.iload_n 3, 1) := by decide +kernel
theorem dX3_judge_133 : decode cX3_judge 133 = .ok (.invokevirtual 73, 3) := by decide +kernel
theorem dX3_judge_136 : decode cX3_judge 136 = .ok (.ireturn, 1) := by decide +kernel
theorem dX3_judge_137 : decode cX3_judge 137 = .ok (.aload_n 0, 1) := by decide +kernel
theorem dX3_judge_138 : decode cX3_judge 138 = .ok (.iload_n 2, 1) := by decide +kernel
theorem dX3_judge_139 : decode cX3_judge 139 = .ok (.iload_n 3, 1) := by decide +kernel
theorem dX3_judge_140 : decode cX3_judge 140 = .ok (.iload 4, 2) := by decide +kernel
theorem dX3_judge_142 : decode cX3_judge 142 = .ok (.invokevirtual 76, 3) := by decide +kernel
theorem dX3_judge_145 : decode cX3_judge 145 = .ok (.ireturn, 1) := by decide +kernel
theorem dX3_judge_146 : decode cX3_judge 146 = .ok (.aload_n 0, 1) := by decide +kernel
theorem dX3_judge_147 : decode cX3_judge 147 = .ok (.iload_n 2, 1) := by decide +kernel
theorem dX3_judge_148 : decode cX3_judge 148 = .ok (.iload_n 3, 1) := by decide +kernel
theorem dX3_judge_149 : decode cX3_judge 149 = .ok (.invokevirtual 80, 3) := by decide +kernel
theorem dX3_judge_152 : decode cX3_judge 152 = .ok (.ireturn, 1) := by decide +kernel
theorem dX3_judge_153 : decode cX3_judge 153 = .ok (.aload_n 0, 1) := by decide +kernel
theorem dX3_judge_154 : decode cX3_judge 154 = .ok (.getfield 21, 3) := by decide +kernel
theorem dX3_judge_157 : decode cX3_judge 157 = .ok (.iload_n 2, 1) := by decide +kernel
theorem dX3_judge_158 : decode cX3_judge 158 = .ok (.invokevirtual 83, 3) := by decide +kernel
theorem dX3_judge_161 : decode cX3_judge 161 = .ok (.iconst (-1), 1) := by decide +kernel
theorem dX3_judge_162 : decode cX3_judge 162 = .ok (.if_icmp .ne 8, 3) := by decide +kernel
theorem dX3_judge_165 : decode cX3_judge 165 = .ok (.bipush (-3), 2) := by decide +kernel
theorem dX3_judge_167 : decode cX3_judge 167 = .ok (.goto 4, 3) := by decide +kernel
theorem dX3_judge_170 : decode cX3_judge 170 = .ok (.iconst 0, 1) := by decide +kernel
theorem dX3_judge_171 : decode cX3_judge 171 = .ok (.ireturn, 1) := by decide +kernel
theorem dX3_judge_172 : decode cX3_judge 172 = .ok (.aload_n 0, 1) := by decide +kernel
theorem dX3_judge_173 : decode cX3_judge 173 = .ok (.getfield 28, 3) := by decide +kernel
theorem dX3_judge_176 : decode cX3_judge 176 = .ok (.iload_n 2, 1) := by decide +kernel
theorem dX3_judge_177 : decode cX3_judge 177 = .ok (.invokevirtual 83, 3) := by decide +kernel
theorem dX3_judge_180 : decode cX3_judge 180 = .ok (.iconst (-1), 1) := by decide +kernel
theorem dX3_judge_181 : decode cX3_judge 181 = .ok (.if_icmp .ne 8, 3) := by decide +kernel
theorem dX3_judge_184 : decode cX3_judge 184 = .ok (.bipush (-3), 2) := by decide +kernel
theorem dX3_judge_186 : decode cX3_judge 186 = .ok (.goto 4, 3) := by decide +kernel
theorem dX3_judge_189 : decode cX3_judge 189 = .ok (.iconst 0, 1) := by decide +kernel
theorem dX3_judge_190 : decode cX3_judge 190 = .ok (.ireturn, 1) := by decide +kernel
theorem dX3_judge_191 : decode cX3_judge 191 = .ok (.iload_n 2, 1) := by decide +kernel
theorem dX3_judge_192 : decode cX3_judge 192 = .ok (.iconst 0, 1) := by decide +kernel
theorem dX3_judge_193 : decode cX3_judge 193 = .ok (.bipush 9, 2) := by decide +kernel
theorem dX3_judge_195 : decode cX3_judge 195 = .ok (.invokestatic 87, 3) := by decide +kernel
theorem dX3_judge_198 : decode cX3_judge 198 = .ok (.ifCond .eq 7, 3) := by decide +kernel
theorem dX3_judge_201 : decode cX3_judge 201 = .ok (.iconst 0, 1) := by decide +kernel
theorem dX3_judge_202 : decode cX3_judge 202 = .ok (.goto 5, 3) := by decide +kernel
theorem dX3_judge_205 : decode cX3_judge 205 = .ok (.bipush (-2), 2) := by decide +kernel
theorem dX3_judge_207 : decode cX3_judge 207 = .ok (.ireturn, 1) := by decide +kernel
theorem dX3_judge_208 : decode cX3_judge 208 = .ok (.iconst 0, 1) := by decide +kernel
theorem dX3_judge_209 : decode cX3_judge 209 = .ok (.ireturn, 1) := by decide +kernel
theorem dX3_carryOut_0 : decode cX3_carryOut 0 = .ok (.iload_n 1, 1) := by decide +kernel
theorem dX3_carryOut_1 : decode cX3_carryOut 1 = .ok (.tableswitch 261 97 121 #[135, 178, 145, 261, 261, 255, 261, 261, 261, 261, 261, 261, 261, 261, 190, 261, 261, 261, 115, 261, 261, 261, 261, 209, 232], 115) := by decide +kernel
theorem dX3_carryOut_116 : decode cX3_carryOut 116 = .ok (.aload_n 0, 1) := by decide +kernel
theorem dX3_carryOut_117 : decode cX3_carryOut 117 = .ok (.dup, 1) := by decide +kernel
theorem dX3_carryOut_118 : decode cX3_carryOut 118 = .ok (.getfield 51, 3) := by decide +kernel
theorem dX3_carryOut_121 : decode cX3_carryOut 121 = .ok (.iload_n 2, 1) := by decide +kernel
theorem dX3_carryOut_122 : decode cX3_carryOut 122 = .ok (.iadd, 1) := by decide +kernel
theorem dX3_carryOut_123 : decode cX3_carryOut 123 = .ok (.putfield 51, 3) := by decide +kernel
theorem dX3_carryOut_126 : decode cX3_carryOut 126 = .ok (.aload_n 0, 1) := by decide +kernel
theorem dX3_carryOut_127 : decode cX3_carryOut 127 = .ok (.getfield 12, 3) := by decide +kernel
theorem dX3_carryOut_130 : decode cX3_carryOut 130 = .ok (.iload_n 2, 1) := by decide +kernel
theorem dX3_carryOut_131 : decode cX3_carryOut 131 = .ok (.iload_n 3, 1) := by decide +kernel
theorem dX3_carryOut_132 : decode cX3_carryOut 132 = .ok (.invokevirtual 91, 3) := by decide +kernel
theorem dX3_carryOut_135 : decode cX3_carryOut 135 = .ok (.ireturn, 1) := by decide +kernel
theorem dX3_carryOut_136 : decode cX3_carryOut 136 = .ok (.aload_n 0, 1) := by decide +kernel
theorem dX3_carryOut_137 : decode cX3_carryOut 137 = .ok (.getfield 12, 3) := by decide +kernel
theorem dX3_carryOut_140 : decode cX3_carryOut 140 = .ok (.iload_n 2, 1) := by decide +kernel
theorem dX3_carryOut_141 : decode cX3_carryOut 141 = .ok (.iload_n 3, 1) := by decide +kernel
theorem dX3_carryOut_142 : decode cX3_carryOut 142 = .ok (.invokevirtual 94, 3) := by decide +kernel
theorem dX3_carryOut_145 : decode cX3_carryOut 145 = .ok (.ireturn, 1) := by decide +kernel
theorem dX3_carryOut_146 : decode cX3_carryOut 146 = .ok (.aload_n 0, 1) := by decide +kernel
theorem dX3_carryOut_147 : decode cX3_carryOut 147 = .ok (.dup, 1) := by decide +kernel
theorem dX3_carryOut_148 : decode cX3_carryOut 148 = .ok (.getfield 51, 3) := by decide +kernel
theorem dX3_carryOut_151 : decode cX3_carryOut 151 = .ok (.iload_n 3, 1) := by decide +kernel
theorem dX3_carryOut_152 : decode cX3_carryOut 152 = .ok (.iadd, 1) := by decide +kernel
theorem dX3_carryOut_153 : decode cX3_carryOut 153 = .ok (.putfield 51, 3) := by decide +kernel
theorem dX3_carryOut_156 : decode cX3_carryOut 156 = .ok (.aload_n 0, 1) := by decide +kernel
theorem dX3_carryOut_157 : decode cX3_carryOut 157 = .ok (.getfield 12, 3) := by decide +kernel
theorem dX3_carryOut_160 : decode cX3_carryOut 160 = .ok (.getfield 97, 3) := by decide +kernel
theorem dX3_carryOut_163 : decode cX3_carryOut 163 = .ok (.iload_n 2, 1) := by decide +kernel
theorem dX3_carryOut_164 : decode cX3_carryOut 164 = .ok (.dup2, 1) := by decide +kernel
theorem dX3_carryOut_165 : decode cX3_carryOut 165 = .ok (.iaload, 1) := by decide +kernel
theorem dX3_carryOut_166 : decode cX3_carryOut 166 = .ok (.iload_n 3, 1) := by decide +kernel
theorem dX3_carryOut_167 : decode cX3_carryOut 167 = .ok (.iadd, 1) := by decide +kernel
theorem dX3_carryOut_168 : decode cX3_carryOut 168 = .ok (.iastore, 1) := by decide +kernel
theorem dX3_carryOut_169 : decode cX3_carryOut 169 = .ok (.aload_n 0, 1) := by decide +kernel
theorem dX3_carryOut_170 : decode cX3_carryOut 170 = .ok (.getfield 12, 3) := by decide +kernel
theorem dX3_carryOut_173 : decode cX3_carryOut 173 = .ok (.getfield 97, 3) := by decide +kernel
theorem dX3_carryOut_176 : decode cX3_carryOut 176 = .ok (.iload_n 2, 1) := by decide +kernel
theorem dX3_carryOut_177 : decode cX3_carryOut 177 = .ok (.iaload, 1) := by decide +kernel
theorem dX3_carryOut_178 : decode cX3_carryOut 178 = .ok (.ireturn, 1) := by decide +kernel
theorem dX3_carryOut_179 : decode cX3_carryOut 179 = .ok (.aload_n 0, 1) := by decide +kernel
theorem dX3_carryOut_180 : decode cX3_carryOut 180 = .ok (.getfield 21, 3) := by decide +kernel
theorem dX3_carryOut_183 : decode cX3_carryOut 183 = .ok (.iload_n 2, 1) := by decide +kernel
theorem dX3_carryOut_184 : decode cX3_carryOut 184 = .ok (.iload_n 3, 1) := by decide +kernel
theorem dX3_carryOut_185 : decode cX3_carryOut 185 = .ok (.iload 4, 2) := by decide +kernel
theorem dX3_carryOut_187 : decode cX3_carryOut 187 = .ok (.invokevirtual 101, 3) := by decide +kernel
theorem dX3_carryOut_190 : decode cX3_carryOut 190 = .ok (.ireturn, 1) := by decide +kernel
theorem dX3_carryOut_191 : decode cX3_carryOut 191 = .ok (.aload_n 0, 1) := by decide +kernel
theorem dX3_carryOut_192 : decode cX3_carryOut 192 = .ok (.getfield 28, 3) := by decide +kernel
theorem dX3_carryOut_195 : decode cX3_carryOut 195 = .ok (.iload_n 2, 1) := by decide +kernel
theorem dX3_carryOut_196 : decode cX3_carryOut 196 = .ok (.aload_n 0, 1) := by decide +kernel
theorem dX3_carryOut_197 : decode cX3_carryOut 197 = .ok (.getfield 12, 3) := by decide +kernel
theorem dX3_carryOut_200 : decode cX3_carryOut 200 = .ok (.getfield 104, 3) := by decide +kernel
theorem dX3_carryOut_203 : decode cX3_carryOut 203 = .ok (.iload_n 2, 1) := by decide +kernel
theorem dX3_carryOut_204 : decode cX3_carryOut 204 = .ok (.iaload, 1) := by decide +kernel
theorem dX3_carryOut_205 : decode cX3_carryOut 205 = .ok (.iload_n 3, 1) := by decide +kernel
theorem dX3_carryOut_206 : decode cX3_carryOut 206 = .ok (.invokevirtual 101, 3) := by decide +kernel
theorem dX3_carryOut_209 : decode cX3_carryOut 209 = .ok (.ireturn, 1) := by decide +kernel
theorem dX3_carryOut_210 : decode cX3_carryOut 210 = .ok (.aload_n 0, 1) := by decide +kernel
theorem dX3_carryOut_211 : decode cX3_carryOut 211 = .ok (.getfield 21, 3) := by decide +kernel
theorem dX3_carryOut_214 : decode cX3_carryOut 214 = .ok (.aload_n 0, 1) := by decide +kernel
theorem dX3_carryOut_215 : decode cX3_carryOut 215 = .ok (.getfield 21, 3) := by decide +kernel
theorem dX3_carryOut_218 : decode cX3_carryOut 218 = .ok (.iload_n 2, 1) := by decide +kernel
theorem dX3_carryOut_219 : decode cX3_carryOut 219 = .ok (.invokevirtual 83, 3) := by decide +kernel
theorem dX3_carryOut_222 : decode cX3_carryOut 222 = .ok (.invokevirtual 107, 3) := by decide +kernel
theorem dX3_carryOut_225 : decode cX3_carryOut 225 = .ok (.aload_n 0, 1) := by decide +kernel
theorem dX3_carryOut_226 : decode cX3_carryOut 226 = .ok (.getfield 21, 3) := by decide +kernel
theorem dX3_carryOut_229 : decode cX3_carryOut 229 = .ok (.getfield 111, 3) := by decide +kernel
theorem dX3_carryOut_232 : decode cX3_carryOut 232 = .ok (.ireturn, 1) := by decide +kernel
theorem dX3_carryOut_233 : decode cX3_carryOut 233 = .ok (.aload_n 0, 1) := by decide +kernel
theorem dX3_carryOut_234 : decode cX3_carryOut 234 = .ok (.getfield 28, 3) := by decide +kernel
theorem dX3_carryOut_237 : decode cX3_carryOut 237 = .ok (.aload_n 0, 1) := by decide +kernel
theorem dX3_carryOut_238 : decode cX3_carryOut 238 = .ok (.getfield 28, 3) := by decide +kernel
theorem dX3_carryOut_241 : decode cX3_carryOut 241 = .ok (.iload_n 2, 1) := by decide +kernel
theorem dX3_carryOut_242 : decode cX3_carryOut 242 = .ok (.invokevirtual 83, 3) := by decide +kernel
theorem dX3_carryOut_245 : decode cX3_carryOut 245 = .ok (.invokevirtual 107, 3) := by decide +kernel
theorem dX3_carryOut_248 : decode cX3_carryOut 248 = .ok (.aload_n 0, 1) := by decide +kernel
theorem dX3_carryOut_249 : decode cX3_carryOut 249 = .ok (.getfield 28, 3) := by decide +kernel
theorem dX3_carryOut_252 : decode cX3_carryOut 252 = .ok (.getfield 111, 3) := by decide +kernel
theorem dX3_carryOut_255 : decode cX3_carryOut 255 = .ok (.ireturn, 1) := by decide +kernel
theorem dX3_carryOut_256 : decode cX3_carryOut 256 = .ok (.aload_n 0, 1) := by decide +kernel
theorem dX3_carryOut_257 : decode cX3_carryOut 257 = .ok (.iload_n 2, 1) := by decide +kernel
theorem dX3_carryOut_258 : decode cX3_carryOut 258 = .ok (.invokevirtual 114, 3) := by decide +kernel
theorem dX3_carryOut_261 : decode cX3_carryOut 261 = .ok (.ireturn, 1) := by decide +kernel
theorem dX3_carryOut_262 : decode cX3_carryOut 262 = .ok (.aload_n 0, 1) := by decide +kernel
theorem dX3_carryOut_263 : decode cX3_carryOut 263 = .ok (.invokevirtual 117, 3) := by decide +kernel
theorem dX3_carryOut_266 : decode cX3_carryOut 266 = .ok (.ireturn, 1) := by decide +kernel
theorem dX3_judgeShip_0 : decode cX3_judgeShip 0 = .ok (.iload_n 1, 1) := by decide +kernel
theorem dX3_judgeShip_1 : decode cX3_judgeShip 1 = .ok (.iconst 0, 1) := by decide +kernel
theorem dX3_judgeShip_2 : decode cX3_judgeShip 2 = .ok (.bipush 99, 2) := by decide +kernel
theorem dX3_judgeShip_4 : decode cX3_judgeShip 4 = .ok (.invokestatic 87, 3) := by decide +kernel
theorem dX3_judgeShip_7 : decode cX3_judgeShip 7 = .ok (.ifCond .eq 12, 3) := by decide +kernel
theorem dX3_judgeShip_10 : decode cX3_judgeShip 10 = .ok (.iload_n 2, 1) := by decide +kernel
theorem dX3_judgeShip_11 : decode cX3_judgeShip 11 = .ok (.iconst 1, 1) := by decide +kernel
theorem dX3_judgeShip_12 : decode cX3_judgeShip 12 = .ok (.iconst 5, 1) := by decide +kernel
theorem dX3_judgeShip_13 : decode cX3_judgeShip 13 = .ok (.invokestatic 87, 3) := by decide +kernel
theorem dX3_judgeShip_16 : decode cX3_judgeShip 16 = .ok (.ifCond .ne 6, 3) := by decide +kernel
theorem dX3_judgeShip_19 : decode cX3_judgeShip 19 = .ok (.bipush (-2), 2) := by decide +kernel
theorem dX3_judgeShip_21 : decode cX3_judgeShip 21 = .ok (.ireturn, 1) := by decide +kernel
theorem dX3_judgeShip_22 : decode cX3_judgeShip 22 = .ok (.aload_n 0, 1) := by decide +kernel
theorem dX3_judgeShip_23 : decode cX3_judgeShip 23 = .ok (.getfield 12, 3) := by decide +kernel
theorem dX3_judgeShip_26 : decode cX3_judgeShip 26 = .ok (.getfield 121, 3) := by decide +kernel
theorem dX3_judgeShip_29 : decode cX3_judgeShip 29 = .ok (.bipush 6, 2) := by decide +kernel
theorem dX3_judgeShip_31 : decode cX3_judgeShip 31 = .ok (.if_icmp .lt 7, 3) := by decide +kernel
theorem dX3_judgeShip_34 : decode cX3_judgeShip 34 = .ok (.iconst 1, 1) := by decide +kernel
theorem dX3_judgeShip_35 : decode cX3_judgeShip 35 = .ok (.goto 4, 3) := by decide +kernel
theorem dX3_judgeShip_38 : decode cX3_judgeShip 38 = .ok (.iconst 0, 1) := by decide +kernel
theorem dX3_judgeShip_39 : decode cX3_judgeShip 39 = .ok (.ireturn, 1) := by decide +kernel
theorem dX3_judgeBarnacle_0 : decode cX3_judgeBarnacle 0 = .ok (.aload_n 0, 1) := by decide +kernel
theorem dX3_judgeBarnacle_1 : decode cX3_judgeBarnacle 1 = .ok (.getfield 12, 3) := by decide +kernel
theorem dX3_judgeBarnacle_4 : decode cX3_judgeBarnacle 4 = .ok (.iload_n 1, 1) := by decide +kernel
theorem dX3_judgeBarnacle_5 : decode cX3_judgeBarnacle 5 = .ok (.invokevirtual 124, 3) := by decide +kernel
theorem dX3_judgeBarnacle_8 : decode cX3_judgeBarnacle 8 = .ok (.ifCond .ne 5, 3) := by decide +kernel
theorem dX3_judgeBarnacle_11 : decode cX3_judgeBarnacle 11 = .ok (.iconst (-1), 1) := by decide +kernel
theorem dX3_judgeBarnacle_12 : decode cX3_judgeBarnacle 12 = .ok (.ireturn, 1) := by decide +kernel
theorem dX3_judgeBarnacle_13 : decode cX3_judgeBarnacle 13 = .ok (.iload_n 2, 1) := by decide +kernel
theorem dX3_judgeBarnacle_14 : decode cX3_judgeBarnacle 14 = .ok (.iconst 1, 1) := by decide +kernel
theorem dX3_judgeBarnacle_15 : decode cX3_judgeBarnacle 15 = .ok (.bipush 9, 2) := by decide +kernel
theorem dX3_judgeBarnacle_17 : decode cX3_judgeBarnacle 17 = .ok (.invokestatic 87, 3) := by decide +kernel
theorem dX3_judgeBarnacle_20 : decode cX3_judgeBarnacle 20 = .ok (.ifCond .ne 6, 3) := by decide +kernel
theorem dX3_judgeBarnacle_23 : decode cX3_judgeBarnacle 23 = .ok (.bipush (-2), 2) := by decide +kernel
theorem dX3_judgeBarnacle_25 : decode cX3_judgeBarnacle 25 = .ok (.ireturn, 1) := by decide +kernel
theorem dX3_judgeBarnacle_26 : decode cX3_judgeBarnacle 26 = .ok (.aload_n 0, 1) := by decide +kernel
theorem dX3_judgeBarnacle_27 : decode cX3_judgeBarnacle 27 = .ok (.getfield 12, 3) := by decide +kernel
theorem dX3_judgeBarnacle_30 : decode cX3_judgeBarnacle 30 = .ok (.getfield 128, 3) := by decide +kernel
theorem dX3_judgeBarnacle_33 : decode cX3_judgeBarnacle 33 = .ok (.bipush 16, 2) := by decide +kernel
theorem dX3_judgeBarnacle_35 : decode cX3_judgeBarnacle 35 = .ok (.if_icmp .lt 5, 3) := by decide +kernel
theorem dX3_judgeBarnacle_38 : decode cX3_judgeBarnacle 38 = .ok (.iconst 2, 1) := by decide +kernel
theorem dX3_judgeBarnacle_39 : decode cX3_judgeBarnacle 39 = .ok (.ireturn, 1) := by decide +kernel
theorem dX3_judgeBarnacle_40 : decode cX3_judgeBarnacle 40 = .ok (.aload_n 0, 1) := by decide +kernel
theorem dX3_judgeBarnacle_41 : decode cX3_judgeBarnacle 41 = .ok (.iload_n 1, 1) := by decide +kernel
theorem dX3_judgeBarnacle_42 : decode cX3_judgeBarnacle 42 = .ok (.invokevirtual 131, 3) := by decide +kernel
theorem dX3_judgeBarnacle_45 : decode cX3_judgeBarnacle 45 = .ok (.iconst 1, 1) := by decide +kernel
theorem dX3_judgeBarnacle_46 : decode cX3_judgeBarnacle 46 = .ok (.if_icmp .ge 7, 3) := by decide +kernel
theorem dX3_judgeBarnacle_49 : decode cX3_judgeBarnacle 49 = .ok (.iconst 3, 1) := by decide +kernel
theorem dX3_judgeBarnacle_50 : decode cX3_judgeBarnacle 50 = .ok (.goto 4, 3) := by decide +kernel
theorem dX3_judgeBarnacle_53 : decode cX3_judgeBarnacle 53 = .ok (.iconst 0, 1) := by decide +kernel
theorem dX3_judgeBarnacle_54 : decode cX3_judgeBarnacle 54 = .ok (.ireturn, 1) := by decide +kernel
theorem dX3_judgeGift_0 : decode cX3_judgeGift 0 = .ok (.aload_n 0, 1) := by decide +kernel
theorem dX3_judgeGift_1 : decode cX3_judgeGift 1 = .ok (.getfield 12, 3) := by decide +kernel
theorem dX3_judgeGift_4 : decode cX3_judgeGift 4 = .ok (.iload_n 1, 1) := by decide +kernel
theorem dX3_judgeGift_5 : decode cX3_judgeGift 5 = .ok (.invokevirtual 124, 3) := by decide +kernel
theorem dX3_judgeGift_8 : decode cX3_judgeGift 8 = .ok (.ifCond .ne 5, 3) := by decide +kernel
theorem dX3_judgeGift_11 : decode cX3_judgeGift 11 = .ok (.iconst (-1), 1) := by decide +kernel
theorem dX3_judgeGift_12 : decode cX3_judgeGift 12 = .ok (.ireturn, 1) := by decide +kernel
theorem dX3_judgeGift_13 : decode cX3_judgeGift 13 = .ok (.iload_n 2, 1) := by decide +kernel
theorem dX3_judgeGift_14 : decode cX3_judgeGift 14 = .ok (.iconst 1, 1) := by decide +kernel
theorem dX3_judgeGift_15 : decode cX3_judgeGift 15 = .ok (.bipush 99, 2) := by decide +kernel
theorem dX3_judgeGift_17 : decode cX3_judgeGift 17 = .ok (.invokestatic 87, 3) := by decide +kernel
theorem dX3_judgeGift_20 : decode cX3_judgeGift 20 = .ok (.ifCond .eq 7, 3) := by decide +kernel
theorem dX3_judgeGift_23 : decode cX3_judgeGift 23 = .ok (.iconst 0, 1) := by decide +kernel
theorem dX3_judgeGift_24 : decode cX3_judgeGift 24 = .ok (.goto 5, 3) := by decide +kernel
theorem dX3_judgeGift_27 : decode cX3_judgeGift 27 = .ok (.bipush (-2), 2) := by decide +kernel
theorem dX3_judgeGift_29 : decode cX3_judgeGift 29 = .ok (.ireturn, 1) := by decide +kernel
theorem dX3_judgeBid_0 : decode cX3_judgeBid 0 = .ok (.aload_n 0, 1) := by decide +kernel
theorem dX3_judgeBid_1 : decode cX3_judgeBid 1 = .ok (.getfield 12, 3) := by decide +kernel
theorem dX3_judgeBid_4 : decode cX3_judgeBid 4 = .ok (.iload_n 1, 1) := by decide +kernel
theorem dX3_judgeBid_5 : decode cX3_judgeBid 5 = .ok (.invokevirtual 124, 3) := by decide +kernel
theorem dX3_judgeBid_8 : decode cX3_judgeBid 8 = .ok (.ifCond .ne 5, 3) := by decide +kernel
theorem dX3_judgeBid_11 : decode cX3_judgeBid 11 = .ok (.iconst (-1), 1) := by decide +kernel
theorem dX3_judgeBid_12 : decode cX3_judgeBid 12 = .ok (.ireturn, 1) := by decide +kernel
theorem dX3_judgeBid_13 : decode cX3_judgeBid 13 = .ok (.iload_n 2, 1) := by decide +kernel
theorem dX3_judgeBid_14 : decode cX3_judgeBid 14 = .ok (.iconst 1, 1) := by decide +kernel
theorem dX3_judgeBid_15 : decode cX3_judgeBid 15 = .ok (.bipush 9, 2) := by decide +kernel
theorem dX3_judgeBid_17 : decode cX3_judgeBid 17 = .ok (.invokestatic 87, 3) := by decide +kernel
theorem dX3_judgeBid_20 : decode cX3_judgeBid 20 = .ok (.ifCond .eq 13, 3) := by decide +kernel
theorem dX3_judgeBid_23 : decode cX3_judgeBid 23 = .ok (.iload_n 3, 1) := by decide +kernel
theorem dX3_judgeBid_24 : decode cX3_judgeBid 24 = .ok (.iconst 1, 1) := by decide +kernel
theorem dX3_judgeBid_25 : decode cX3_judgeBid 25 = .ok (.bipush 99, 2) := by decide +kernel
theorem dX3_judgeBid_27 : decode cX3_judgeBid 27 = .ok (.invokestatic 87, 3) := by decide +kernel
theorem dX3_judgeBid_30 : decode cX3_judgeBid 30 = .ok (.ifCond .ne 6, 3) := by decide +kernel
theorem dX3_judgeBid_33 : decode cX3_judgeBid 33 = .ok (.bipush (-2), 2) := by decide +kernel
theorem dX3_judgeBid_35 : decode cX3_judgeBid 35 = .ok (.ireturn, 1) := by decide +kernel
theorem dX3_judgeBid_36 : decode cX3_judgeBid 36 = .ok (.aload_n 0, 1) := by decide +kernel
theorem dX3_judgeBid_37 : decode cX3_judgeBid 37 = .ok (.getfield 21, 3) := by decide +kernel
theorem dX3_judgeBid_40 : decode cX3_judgeBid 40 = .ok (.getfield 111, 3) := by decide +kernel
theorem dX3_judgeBid_43 : decode cX3_judgeBid 43 = .ok (.bipush 10, 2) := by decide +kernel
theorem dX3_judgeBid_45 : decode cX3_judgeBid 45 = .ok (.if_icmp .lt 5, 3) := by decide +kernel
theorem dX3_judgeBid_48 : decode cX3_judgeBid 48 = .ok (.iconst 4, 1) := by decide +kernel
theorem dX3_judgeBid_49 : decode cX3_judgeBid 49 = .ok (.ireturn, 1) := by decide +kernel
theorem dX3_judgeBid_50 : decode cX3_judgeBid 50 = .ok (.aload_n 0, 1) := by decide +kernel
theorem dX3_judgeBid_51 : decode cX3_judgeBid 51 = .ok (.iload_n 1, 1) := by decide +kernel
theorem dX3_judgeBid_52 : decode cX3_judgeBid 52 = .ok (.invokevirtual 131, 3) := by decide +kernel
theorem dX3_judgeBid_55 : decode cX3_judgeBid 55 = .ok (.iconst 1, 1) := by decide +kernel
theorem dX3_judgeBid_56 : decode cX3_judgeBid 56 = .ok (.if_icmp .ge 5, 3) := by decide +kernel
theorem dX3_judgeBid_59 : decode cX3_judgeBid 59 = .ok (.iconst 3, 1) := by decide +kernel
theorem dX3_judgeBid_60 : decode cX3_judgeBid 60 = .ok (.ireturn, 1) := by decide +kernel
theorem dX3_judgeBid_61 : decode cX3_judgeBid 61 = .ok (.aload_n 0, 1) := by decide +kernel
theorem dX3_judgeBid_62 : decode cX3_judgeBid 62 = .ok (.iload_n 1, 1) := by decide +kernel
theorem dX3_judgeBid_63 : decode cX3_judgeBid 63 = .ok (.invokevirtual 134, 3) := by decide +kernel
theorem dX3_judgeBid_66 : decode cX3_judgeBid 66 = .ok (.iload_n 3, 1) := by decide +kernel
theorem dX3_judgeBid_67 : decode cX3_judgeBid 67 = .ok (.if_icmp .ge 7, 3) := by decide +kernel
theorem dX3_judgeBid_70 : decode cX3_judgeBid 70 = .ok (.iconst 5, 1) := by decide +kernel
theorem dX3_judgeBid_71 : decode cX3_judgeBid 71 = .ok (.goto 4, 3) := by decide +kernel
theorem dX3_judgeBid_74 : decode cX3_judgeBid 74 = .ok (.iconst 0, 1) := by decide +kernel
theorem dX3_judgeBid_75 : decode cX3_judgeBid 75 = .ok (.ireturn, 1) := by decide +kernel
theorem dX3_judgeOffer_0 : decode cX3_judgeOffer 0 = .ok (.aload_n 0, 1) := by decide +kernel
theorem dX3_judgeOffer_1 : decode cX3_judgeOffer 1 = .ok (.getfield 12, 3) := by decide +kernel
theorem dX3_judgeOffer_4 : decode cX3_judgeOffer 4 = .ok (.iload_n 1, 1) := by decide +kernel
theorem dX3_judgeOffer_5 : decode cX3_judgeOffer 5 = .ok (.invokevirtual 137, 3) := by decide +kernel
theorem dX3_judgeOffer_8 : decode cX3_judgeOffer 8 = .ok (.ifCond .ne 5, 3) := by decide +kernel
theorem dX3_judgeOffer_11 : decode cX3_judgeOffer 11 = .ok (.iconst (-1), 1) := by decide +kernel
theorem dX3_judgeOffer_12 : decode cX3_judgeOffer 12 = .ok (.ireturn, 1) := by decide +kernel
theorem dX3_judgeOffer_13 : decode cX3_judgeOffer 13 = .ok (.iload_n 2, 1) := by decide +kernel
theorem dX3_judgeOffer_14 : decode cX3_judgeOffer 14 = .ok (.iconst 1, 1) := by decide +kernel
theorem dX3_judgeOffer_15 : decode cX3_judgeOffer 15 = .ok (.bipush 99, 2) := by decide +kernel
theorem dX3_judgeOffer_17 : decode cX3_judgeOffer 17 = .ok (.invokestatic 87, 3) := by decide +kernel
theorem dX3_judgeOffer_20 : decode cX3_judgeOffer 20 = .ok (.ifCond .ne 6, 3) := by decide +kernel
theorem dX3_judgeOffer_23 : decode cX3_judgeOffer 23 = .ok (.bipush (-2), 2) := by decide +kernel
theorem dX3_judgeOffer_25 : decode cX3_judgeOffer 25 = .ok (.ireturn, 1) := by decide +kernel
theorem dX3_judgeOffer_26 : decode cX3_judgeOffer 26 = .ok (.aload_n 0, 1) := by decide +kernel
theorem dX3_judgeOffer_27 : decode cX3_judgeOffer 27 = .ok (.getfield 28, 3) := by decide +kernel
theorem dX3_judgeOffer_30 : decode cX3_judgeOffer 30 = .ok (.iload_n 1, 1) := by decide +kernel
theorem dX3_judgeOffer_31 : decode cX3_judgeOffer 31 = .ok (.invokevirtual 140, 3) := by decide +kernel
theorem dX3_judgeOffer_34 : decode cX3_judgeOffer 34 = .ok (.iconst (-1), 1) := by decide +kernel
theorem dX3_judgeOffer_35 : decode cX3_judgeOffer 35 = .ok (.if_icmp .ne 7, 3) := by decide +kernel
theorem dX3_judgeOffer_38 : decode cX3_judgeOffer 38 = .ok (.iconst 0, 1) := by decide +kernel
theorem dX3_judgeOffer_39 : decode cX3_judgeOffer 39 = .ok (.goto 5, 3) := by decide +kernel
theorem dX3_judgeOffer_42 : decode cX3_judgeOffer 42 = .ok (.bipush 6, 2) := by decide +kernel
theorem dX3_judgeOffer_44 : decode cX3_judgeOffer 44 = .ok (.ireturn, 1) := by decide +kernel
theorem dX3_detailOf_0 : decode cX3_detailOf 0 = .ok (.iload_n 1, 1) := by decide +kernel
theorem dX3_detailOf_1 : decode cX3_detailOf 1 = .ok (.tableswitch 68 1 5 #[35, 38, 41, 51, 62], 35) := by decide +kernel
theorem dX3_detailOf_36 : decode cX3_detailOf 36 = .ok (.bipush 6, 2) := by decide +kernel
theorem dX3_detailOf_38 : decode cX3_detailOf 38 = .ok (.ireturn, 1) := by decide +kernel
theorem dX3_detailOf_39 : decode cX3_detailOf 39 = .ok (.bipush 16, 2) := by decide +kernel
theorem dX3_detailOf_41 : decode cX3_detailOf 41 = .ok (.ireturn, 1) := by decide +kernel
theorem dX3_detailOf_42 : decode cX3_detailOf 42 = .ok (.aload_n 0, 1) := by decide +kernel
theorem dX3_detailOf_43 : decode cX3_detailOf 43 = .ok (.getfield 12, 3) := by decide +kernel
theorem dX3_detailOf_46 : decode cX3_detailOf 46 = .ok (.getfield 143, 3) := by decide +kernel
theorem dX3_detailOf_49 : decode cX3_detailOf 49 = .ok (.iload_n 2, 1) := by decide +kernel
theorem dX3_detailOf_50 : decode cX3_detailOf 50 = .ok (.iaload, 1) := by decide +kernel
theorem dX3_detailOf_51 : decode cX3_detailOf 51 = .ok (.ireturn, 1) := by decide +kernel
theorem dX3_detailOf_52 : decode cX3_detailOf 52 = .ok (.aload_n 0, 1) := by decide +kernel
theorem dX3_detailOf_53 : decode cX3_detailOf 53 = .ok (.getfield 21, 3) := by decide +kernel
theorem dX3_detailOf_56 : decode cX3_detailOf 56 = .ok (.getfield 146, 3) := by decide +kernel
theorem dX3_detailOf_59 : decode cX3_detailOf 59 = .ok (.bipush 9, 2) := by decide +kernel
theorem dX3_detailOf_61 : decode cX3_detailOf 61 = .ok (.iaload, 1) := by decide +kernel
theorem dX3_detailOf_62 : decode cX3_detailOf 62 = .ok (.ireturn, 1) := by decide +kernel
theorem dX3_detailOf_63 : decode cX3_detailOf 63 = .ok (.aload_n 0, 1) := by decide +kernel
theorem dX3_detailOf_64 : decode cX3_detailOf 64 = .ok (.iload_n 2, 1) := by decide +kernel
theorem dX3_detailOf_65 : decode cX3_detailOf 65 = .ok (.invokevirtual 134, 3) := by decide +kernel
theorem dX3_detailOf_68 : decode cX3_detailOf 68 = .ok (.ireturn, 1) := by decide +kernel
theorem dX3_detailOf_69 : decode cX3_detailOf 69 = .ok (.aload_n 0, 1) := by decide +kernel
theorem dX3_detailOf_70 : decode cX3_detailOf 70 = .ok (.getfield 28, 3) := by decide +kernel
theorem dX3_detailOf_73 : decode cX3_detailOf 73 = .ok (.iload_n 2, 1) := by decide +kernel
theorem dX3_detailOf_74 : decode cX3_detailOf 74 = .ok (.invokevirtual 149, 3) := by decide +kernel
theorem dX3_detailOf_77 : decode cX3_detailOf 77 = .ok (.ireturn, 1) := by decide +kernel
theorem dX3_placesLeft_0 : decode cX3_placesLeft 0 = .ok (.aload_n 0, 1) := by decide +kernel
theorem dX3_placesLeft_1 : decode cX3_placesLeft 1 = .ok (.getfield 12, 3) := by decide +kernel
theorem dX3_placesLeft_4 : decode cX3_placesLeft 4 = .ok (.getfield 143, 3) := by decide +kernel
theorem dX3_placesLeft_7 : decode cX3_placesLeft 7 = .ok (.iload_n 1, 1) := by decide +kernel
theorem dX3_placesLeft_8 : decode cX3_placesLeft 8 = .ok (.iaload, 1) := by decide +kernel
theorem dX3_placesLeft_9 : decode cX3_placesLeft 9 = .ok (.aload_n 0, 1) := by decide +kernel
theorem dX3_placesLeft_10 : decode cX3_placesLeft 10 = .ok (.getfield 12, 3) := by decide +kernel
theorem dX3_placesLeft_13 : decode cX3_placesLeft 13 = .ok (.iload_n 1, 1) := by decide +kernel
theorem dX3_placesLeft_14 : decode cX3_placesLeft 14 = .ok (.invokevirtual 152, 3) := by decide +kernel
theorem dX3_placesLeft_17 : decode cX3_placesLeft 17 = .ok (.isub, 1) := by decide +kernel
theorem dX3_placesLeft_18 : decode cX3_placesLeft 18 = .ok (.aload_n 0, 1) := by decide +kernel
theorem dX3_placesLeft_19 : decode cX3_placesLeft 19 = .ok (.getfield 21, 3) := by decide +kernel
theorem dX3_placesLeft_22 : decode cX3_placesLeft 22 = .ok (.iload_n 1, 1) := by decide +kernel
theorem dX3_placesLeft_23 : decode cX3_placesLeft 23 = .ok (.invokevirtual 155, 3) := by decide +kernel
theorem dX3_placesLeft_26 : decode cX3_placesLeft 26 = .ok (.isub, 1) := by decide +kernel
theorem dX3_placesLeft_27 : decode cX3_placesLeft 27 = .ok (.ireturn, 1) := by decide +kernel
theorem dX3_coinsLeft_0 : decode cX3_coinsLeft 0 = .ok (.aload_n 0, 1) := by decide +kernel
theorem dX3_coinsLeft_1 : decode cX3_coinsLeft 1 = .ok (.getfield 12, 3) := by decide +kernel
theorem dX3_coinsLeft_4 : decode cX3_coinsLeft 4 = .ok (.getfield 97, 3) := by decide +kernel
theorem dX3_coinsLeft_7 : decode cX3_coinsLeft 7 = .ok (.iload_n 1, 1) := by decide +kernel
theorem dX3_coinsLeft_8 : decode cX3_coinsLeft 8 = .ok (.iaload, 1) := by decide +kernel
theorem dX3_coinsLeft_9 : decode cX3_coinsLeft 9 = .ok (.aload_n 0, 1) := by decide +kernel
theorem dX3_coinsLeft_10 : decode cX3_coinsLeft 10 = .ok (.getfield 21, 3) := by decide +kernel
theorem dX3_coinsLeft_13 : decode cX3_coinsLeft 13 = .ok (.iload_n 1, 1) := by decide +kernel
theorem dX3_coinsLeft_14 : decode cX3_coinsLeft 14 = .ok (.invokevirtual 158, 3) := by decide +kernel
theorem dX3_coinsLeft_17 : decode cX3_coinsLeft 17 = .ok (.isub, 1) := by decide +kernel
theorem dX3_coinsLeft_18 : decode cX3_coinsLeft 18 = .ok (.ireturn, 1) := by decide +kernel
theorem dX3_coinSum_0 : decode cX3_coinSum 0 = .ok (.aload_n 0, 1) := by decide +kernel
theorem dX3_coinSum_1 : decode cX3_coinSum 1 = .ok (.getfield 12, 3) := by decide +kernel
theorem dX3_coinSum_4 : decode cX3_coinSum 4 = .ok (.invokevirtual 161, 3) := by decide +kernel
theorem dX3_coinSum_7 : decode cX3_coinSum 7 = .ok (.aload_n 0, 1) := by decide +kernel
theorem dX3_coinSum_8 : decode cX3_coinSum 8 = .ok (.getfield 48, 3) := by decide +kernel
theorem dX3_coinSum_11 : decode cX3_coinSum 11 = .ok (.iadd, 1) := by decide +kernel
theorem dX3_coinSum_12 : decode cX3_coinSum 12 = .ok (.ireturn, 1) := by decide +kernel
theorem dX3_replaceCharge_0 : decode cX3_replaceCharge 0 = .ok (.aload_n 0, 1) := by decide +kernel
theorem dX3_replaceCharge_1 : decode cX3_replaceCharge 1 = .ok (.getfield 38, 3) := by decide +kernel
theorem dX3_replaceCharge_4 : decode cX3_replaceCharge 4 = .ok (.istore_n 2, 1) := by decide +kernel
theorem dX3_replaceCharge_5 : decode cX3_replaceCharge 5 = .ok (.aload_n 0, 1) := by decide +kernel
theorem dX3_replaceCharge_6 : decode cX3_replaceCharge 6 = .ok (.iload_n 1, 1) := by decide +kernel
theorem dX3_replaceCharge_7 : decode cX3_replaceCharge 7 = .ok (.putfield 38, 3) := by decide +kernel
theorem dX3_replaceCharge_10 : decode cX3_replaceCharge 10 = .ok (.iload_n 2, 1) := by decide +kernel
theorem dX3_replaceCharge_11 : decode cX3_replaceCharge 11 = .ok (.ireturn, 1) := by decide +kernel
theorem dX3_fits_0 : decode cX3_fits 0 = .ok (.aload_n 0, 1) := by decide +kernel
theorem dX3_fits_1 : decode cX3_fits 1 = .ok (.getfield 12, 3) := by decide +kernel
theorem dX3_fits_4 : decode cX3_fits 4 = .ok (.getfield 164, 3) := by decide +kernel
theorem dX3_fits_7 : decode cX3_fits 7 = .ok (.aload_n 0, 1) := by decide +kernel
theorem dX3_fits_8 : decode cX3_fits 8 = .ok (.getfield 28, 3) := by decide +kernel
theorem dX3_fits_11 : decode cX3_fits 11 = .ok (.getfield 167, 3) := by decide +kernel
theorem dX3_fits_14 : decode cX3_fits 14 = .ok (.iload_n 1, 1) := by decide +kernel
theorem dX3_fits_15 : decode cX3_fits 15 = .ok (.iaload, 1) := by decide +kernel
theorem dX3_fits_16 : decode cX3_fits 16 = .ok (.iaload, 1) := by decide +kernel
theorem dX3_fits_17 : decode cX3_fits 17 = .ok (.istore_n 3, 1) := by decide +kernel
theorem dX3_fits_18 : decode cX3_fits 18 = .ok (.iload_n 3, 1) := by decide +kernel
theorem dX3_fits_19 : decode cX3_fits 19 = .ok (.aload_n 0, 1) := by decide +kernel
theorem dX3_fits_20 : decode cX3_fits 20 = .ok (.getfield 21, 3) := by decide +kernel
theorem dX3_fits_23 : decode cX3_fits 23 = .ok (.getfield 167, 3) := by decide +kernel
theorem dX3_fits_26 : decode cX3_fits 26 = .ok (.iload_n 2, 1) := by decide +kernel
theorem dX3_fits_27 : decode cX3_fits 27 = .ok (.iaload, 1) := by decide +kernel
theorem dX3_fits_28 : decode cX3_fits 28 = .ok (.if_icmp .eq 49, 3) := by decide +kernel
theorem dX3_fits_31 : decode cX3_fits 31 = .ok (.aload_n 0, 1) := by decide +kernel
theorem dX3_fits_32 : decode cX3_fits 32 = .ok (.getfield 28, 3) := by decide +kernel
theorem dX3_fits_35 : decode cX3_fits 35 = .ok (.getfield 170, 3) := by decide +kernel
theorem dX3_fits_38 : decode cX3_fits 38 = .ok (.iload_n 1, 1) := by decide +kernel
theorem dX3_fits_39 : decode cX3_fits 39 = .ok (.iaload, 1) := by decide +kernel
theorem dX3_fits_40 : decode cX3_fits 40 = .ok (.aload_n 0, 1) := by decide +kernel
theorem dX3_fits_41 : decode cX3_fits 41 = .ok (.getfield 21, 3) := by decide +kernel
theorem dX3_fits_44 : decode cX3_fits 44 = .ok (.getfield 170, 3) := by decide +kernel
theorem dX3_fits_47 : decode cX3_fits 47 = .ok (.iload_n 2, 1) := by decide +kernel
theorem dX3_fits_48 : decode cX3_fits 48 = .ok (.iaload, 1) := by decide +kernel
theorem dX3_fits_49 : decode cX3_fits 49 = .ok (.if_icmp .lt 28, 3) := by decide +kernel
theorem dX3_fits_52 : decode cX3_fits 52 = .ok (.aload_n 0, 1) := by decide +kernel
theorem dX3_fits_53 : decode cX3_fits 53 = .ok (.getfield 28, 3) := by decide +kernel
theorem dX3_fits_56 : decode cX3_fits 56 = .ok (.getfield 171, 3) := by decide +kernel
theorem dX3_fits_59 : decode cX3_fits 59 = .ok (.iload_n 1, 1) := by decide +kernel
theorem dX3_fits_60 : decode cX3_fits 60 = .ok (.iaload, 1) := by decide +kernel
theorem dX3_fits_61 : decode cX3_fits 61 = .ok (.aload_n 0, 1) := by decide +kernel
theorem dX3_fits_62 : decode cX3_fits 62 = .ok (.getfield 21, 3) := by decide +kernel
theorem dX3_fits_65 : decode cX3_fits 65 = .ok (.getfield 171, 3) := by decide +kernel
theorem dX3_fits_68 : decode cX3_fits 68 = .ok (.iload_n 2, 1) := by decide +kernel
theorem dX3_fits_69 : decode cX3_fits 69 = .ok (.iaload, 1) := by decide +kernel
theorem dX3_fits_70 : decode cX3_fits 70 = .ok (.if_icmp .gt 7, 3) := by decide +kernel
theorem dX3_fits_73 : decode cX3_fits 73 = .ok (.iconst 1, 1) := by decide +kernel
theorem dX3_fits_74 : decode cX3_fits 74 = .ok (.goto 4, 3) := by decide +kernel
theorem dX3_fits_77 : decode cX3_fits 77 = .ok (.iconst 0, 1) := by decide +kernel
theorem dX3_fits_78 : decode cX3_fits 78 = .ok (.ireturn, 1) := by decide +kernel
theorem dX3_matchInOrder_0 : decode cX3_matchInOrder 0 = .ok (.iconst 0, 1) := by decide +kernel
theorem dX3_matchInOrder_1 : decode cX3_matchInOrder 1 = .ok (.istore_n 2, 1) := by decide +kernel
theorem dX3_matchInOrder_2 : decode cX3_matchInOrder 2 = .ok (.iload_n 2, 1) := by decide +kernel
theorem dX3_matchInOrder_3 : decode cX3_matchInOrder 3 = .ok (.aload_n 0, 1) := by decide +kernel
theorem dX3_matchInOrder_4 : decode cX3_matchInOrder 4 = .ok (.getfield 28, 3) := by decide +kernel
theorem dX3_matchInOrder_7 : decode cX3_matchInOrder 7 = .ok (.getfield 111, 3) := by decide +kernel
theorem dX3_matchInOrder_10 : decode cX3_matchInOrder 10 = .ok (.if_icmp .ge 20, 3) := by decide +kernel
theorem dX3_matchInOrder_13 : decode cX3_matchInOrder 13 = .ok (.aload_n 0, 1) := by decide +kernel
theorem dX3_matchInOrder_14 : decode cX3_matchInOrder 14 = .ok (.iload_n 2, 1) := by decide +kernel
theorem dX3_matchInOrder_15 : decode cX3_matchInOrder 15 = .ok (.iload_n 1, 1) := by decide +kernel
theorem dX3_matchInOrder_16 : decode cX3_matchInOrder 16 = .ok (.invokevirtual 174, 3) := by decide +kernel
theorem dX3_matchInOrder_19 : decode cX3_matchInOrder 19 = .ok (.ifCond .eq 5, 3) := by decide +kernel
theorem dX3_matchInOrder_22 : decode cX3_matchInOrder 22 = .ok (.iload_n 2, 1) := by decide +kernel
theorem dX3_matchInOrder_23 : decode cX3_matchInOrder 23 = .ok (.ireturn, 1) := by decide +kernel
theorem dX3_matchInOrder_24 : decode cX3_matchInOrder 24 = .ok (.iinc 2 1, 3) := by decide +kernel
theorem dX3_matchInOrder_27 : decode cX3_matchInOrder 27 = .ok (.goto (-25), 3) := by decide +kernel
theorem dX3_matchInOrder_30 : decode cX3_matchInOrder 30 = .ok (.iconst (-1), 1) := by decide +kernel
theorem dX3_matchInOrder_31 : decode cX3_matchInOrder 31 = .ok (.ireturn, 1) := by decide +kernel
theorem dX3_matchAmongBarnacles_0 : decode cX3_matchAmongBarnacles 0 = .ok (.iconst (-1), 1) := by decide +kernel
theorem dX3_matchAmongBarnacles_1 : decode cX3_matchAmongBarnacles 1 = .ok (.istore_n 2, 1) := by decide +kernel
theorem dX3_matchAmongBarnacles_2 : decode cX3_matchAmongBarnacles 2 = .ok (.iconst 0, 1) := by decide +kernel
theorem dX3_matchAmongBarnacles_3 : decode cX3_matchAmongBarnacles 3 = .ok (.istore_n 3, 1) := by decide +kernel
theorem dX3_matchAmongBarnacles_4 : decode cX3_matchAmongBarnacles 4 = .ok (.iload_n 3, 1) := by decide +kernel
theorem dX3_matchAmongBarnacles_5 : decode cX3_matchAmongBarnacles 5 = .ok (.aload_n 0, 1) := by decide +kernel
theorem dX3_matchAmongBarnacles_6 : decode cX3_matchAmongBarnacles 6 = .ok (.getfield 12, 3) := by decide +kernel
theorem dX3_matchAmongBarnacles_9 : decode cX3_matchAmongBarnacles 9 = .ok (.getfield 128, 3) := by decide +kernel
theorem dX3_matchAmongBarnacles_12 : decode cX3_matchAmongBarnacles 12 = .ok (.if_icmp .ge 53, 3) := by decide +kernel
theorem dX3_matchAmongBarnacles_15 : decode cX3_matchAmongBarnacles 15 = .ok (.aload_n 0, 1) := by decide +kernel
theorem dX3_matchAmongBarnacles_16 : decode cX3_matchAmongBarnacles 16 = .ok (.getfield 28, 3) := by decide +kernel
theorem dX3_matchAmongBarnacles_19 : decode cX3_matchAmongBarnacles 19 = .ok (.iload_n 3, 1) := by decide +kernel
theorem dX3_matchAmongBarnacles_20 : decode cX3_matchAmongBarnacles 20 = .ok (.invokevirtual 140, 3) := by decide +kernel
theorem dX3_matchAmongBarnacles_23 : decode cX3_matchAmongBarnacles 23 = .ok (.istore 4, 2) := by decide +kernel
theorem dX3_matchAmongBarnacles_25 : decode cX3_matchAmongBarnacles 25 = .ok (.iload 4, 2) := by decide +kernel
theorem dX3_matchAmongBarnacles_27 : decode cX3_matchAmongBarnacles 27 = .ok (.iconst (-1), 1) := by decide +kernel
theorem dX3_matchAmongBarnacles_28 : decode cX3_matchAmongBarnacles 28 = .ok (.if_icmp .eq 31, 3) := by decide +kernel
theorem dX3_matchAmongBarnacles_31 : decode cX3_matchAmongBarnacles 31 = .ok (.aload_n 0, 1) := by decide +kernel
theorem dX3_matchAmongBarnacles_32 : decode cX3_matchAmongBarnacles 32 = .ok (.iload 4, 2) := by decide +kernel
theorem dX3_matchAmongBarnacles_34 : decode cX3_matchAmongBarnacles 34 = .ok (.iload_n 1, 1) := by decide +kernel
theorem dX3_matchAmongBarnacles_35 : decode cX3_matchAmongBarnacles 35 = .ok (.invokevirtual 174, 3) := by decide +kernel
theorem dX3_matchAmongBarnacles_38 : decode cX3_matchAmongBarnacles 38 = .ok (.ifCond .eq 21, 3) := by decide +kernel
theorem dX3_matchAmongBarnacles_41 : decode cX3_matchAmongBarnacles 41 = .ok (.iload_n 2, 1) := by decide +kernel
theorem dX3_matchAmongBarnacles_42 : decode cX3_matchAmongBarnacles 42 = .ok (.iconst (-1), 1) := by decide +kernel
theorem dX3_matchAmongBarnacles_43 : decode cX3_matchAmongBarnacles 43 = .ok (.if_icmp .eq 13, 3) := by decide +kernel
theorem dX3_matchAmongBarnacles_46 : decode cX3_matchAmongBarnacles 46 = .ok (.aload_n 0, 1) := by decide +kernel
theorem dX3_matchAmongBarnacles_47 : decode cX3_matchAmongBarnacles 47 = .ok (.iload 4, 2) := by decide +kernel
theorem dX3_matchAmongBarnacles_49 : decode cX3_matchAmongBarnacles 49 = .ok (.iload_n 2, 1) := by decide +kernel
theorem dX3_matchAmongBarnacles_50 : decode cX3_matchAmongBarnacles 50 = .ok (.invokevirtual 178, 3) := by decide +kernel
theorem dX3_matchAmongBarnacles_53 : decode cX3_matchAmongBarnacles 53 = .ok (.ifCond .eq 6, 3) := by decide +kernel
theorem dX3_matchAmongBarnacles_56 : decode cX3_matchAmongBarnacles 56 = .ok (.iload 4, 2) := by decide +kernel
theorem dX3_matchAmongBarnacles_58 : decode cX3_matchAmongBarnacles 58 = .ok (.istore_n 2, 1) := by decide +kernel
theorem dX3_matchAmongBarnacles_59 : decode cX3_matchAmongBarnacles 59 = .ok (.iinc 3 1, 3) := by decide +kernel
theorem dX3_matchAmongBarnacles_62 : decode cX3_matchAmongBarnacles 62 = .ok (.goto (-58), 3) := by decide +kernel
theorem dX3_matchAmongBarnacles_65 : decode cX3_matchAmongBarnacles 65 = .ok (.iload_n 2, 1) := by decide +kernel
theorem dX3_matchAmongBarnacles_66 : decode cX3_matchAmongBarnacles 66 = .ok (.ireturn, 1) := by decide +kernel
theorem dX3_isOfferAhead_0 : decode cX3_isOfferAhead 0 = .ok (.aload_n 0, 1) := by decide +kernel
theorem dX3_isOfferAhead_1 : decode cX3_isOfferAhead 1 = .ok (.getfield 28, 3) := by decide +kernel
theorem dX3_isOfferAhead_4 : decode cX3_isOfferAhead 4 = .ok (.getfield 171, 3) := by decide +kernel
theorem dX3_isOfferAhead_7 : decode cX3_isOfferAhead 7 = .ok (.iload_n 1, 1) := by decide +kernel
theorem dX3_isOfferAhead_8 : decode cX3_isOfferAhead 8 = .ok (.iaload, 1) := by decide +kernel
theorem dX3_isOfferAhead_9 : decode cX3_isOfferAhead 9 = .ok (.aload_n 0, 1) := by decide +kernel
theorem dX3_isOfferAhead_10 : decode cX3_isOfferAhead 10 = .ok (.getfield 28, 3) := by decide +kernel
theorem dX3_isOfferAhead_13 : decode cX3_isOfferAhead 13 = .ok (.getfield 171, 3) := by decide +kernel
theorem dX3_isOfferAhead_16 : decode cX3_isOfferAhead 16 = .ok (.iload_n 2, 1) := by decide +kernel
theorem dX3_isOfferAhead_17 : decode cX3_isOfferAhead 17 = .ok (.iaload, 1) := by decide +kernel
theorem dX3_isOfferAhead_18 : decode cX3_isOfferAhead 18 = .ok (.if_icmp .eq 30, 3) := by decide +kernel
theorem dX3_isOfferAhead_21 : decode cX3_isOfferAhead 21 = .ok (.aload_n 0, 1) := by decide +kernel
theorem dX3_isOfferAhead_22 : decode cX3_isOfferAhead 22 = .ok (.getfield 28, 3) := by decide +kernel
theorem dX3_isOfferAhead_25 : decode cX3_isOfferAhead 25 = .ok (.getfield 171, 3) := by decide +kernel
theorem dX3_isOfferAhead_28 : decode cX3_isOfferAhead 28 = .ok (.iload_n 1, 1) := by decide +kernel
theorem dX3_isOfferAhead_29 : decode cX3_isOfferAhead 29 = .ok (.iaload, 1) := by decide +kernel
theorem dX3_isOfferAhead_30 : decode cX3_isOfferAhead 30 = .ok (.aload_n 0, 1) := by decide +kernel
theorem dX3_isOfferAhead_31 : decode cX3_isOfferAhead 31 = .ok (.getfield 28, 3) := by decide +kernel
theorem dX3_isOfferAhead_34 : decode cX3_isOfferAhead 34 = .ok (.getfield 171, 3) := by decide +kernel
theorem dX3_isOfferAhead_37 : decode cX3_isOfferAhead 37 = .ok (.iload_n 2, 1) := by decide +kernel
theorem dX3_isOfferAhead_38 : decode cX3_isOfferAhead 38 = .ok (.iaload, 1) := by decide +kernel
theorem dX3_isOfferAhead_39 : decode cX3_isOfferAhead 39 = .ok (.if_icmp .ge 7, 3) := by decide +kernel
theorem dX3_isOfferAhead_42 : decode cX3_isOfferAhead 42 = .ok (.iconst 1, 1) := by decide +kernel
theorem dX3_isOfferAhead_43 : decode cX3_isOfferAhead 43 = .ok (.goto 4, 3) := by decide +kernel
theorem dX3_isOfferAhead_46 : decode cX3_isOfferAhead 46 = .ok (.iconst 0, 1) := by decide +kernel
theorem dX3_isOfferAhead_47 : decode cX3_isOfferAhead 47 = .ok (.ireturn, 1) := by decide +kernel
theorem dX3_isOfferAhead_48 : decode cX3_isOfferAhead 48 = .ok (.aload_n 0, 1) := by decide +kernel
theorem dX3_isOfferAhead_49 : decode cX3_isOfferAhead 49 = .ok (.getfield 28, 3) := by decide +kernel
theorem dX3_isOfferAhead_52 : decode cX3_isOfferAhead 52 = .ok (.getfield 170, 3) := by decide +kernel
theorem dX3_isOfferAhead_55 : decode cX3_isOfferAhead 55 = .ok (.iload_n 1, 1) := by decide +kernel
theorem dX3_isOfferAhead_56 : decode cX3_isOfferAhead 56 = .ok (.iaload, 1) := by decide +kernel
theorem dX3_isOfferAhead_57 : decode cX3_isOfferAhead 57 = .ok (.aload_n 0, 1) := by decide +kernel
theorem dX3_isOfferAhead_58 : decode cX3_isOfferAhead 58 = .ok (.getfield 28, 3) := by decide +kernel
theorem dX3_isOfferAhead_61 : decode cX3_isOfferAhead 61 = .ok (.getfield 170, 3) := by decide +kernel
theorem dX3_isOfferAhead_64 : decode cX3_isOfferAhead 64 = .ok (.iload_n 2, 1) := by decide +kernel
theorem dX3_isOfferAhead_65 : decode cX3_isOfferAhead 65 = .ok (.iaload, 1) := by decide +kernel
theorem dX3_isOfferAhead_66 : decode cX3_isOfferAhead 66 = .ok (.if_icmp .eq 30, 3) := by decide +kernel
theorem dX3_isOfferAhead_69 : decode cX3_isOfferAhead 69 = .ok (.aload_n 0, 1) := by decide +kernel
theorem dX3_isOfferAhead_70 : decode cX3_isOfferAhead 70 = .ok (.getfield 28, 3) := by decide +kernel
theorem dX3_isOfferAhead_73 : decode cX3_isOfferAhead 73 = .ok (.getfield 170, 3) := by decide +kernel
theorem dX3_isOfferAhead_76 : decode cX3_isOfferAhead 76 = .ok (.iload_n 1, 1) := by decide +kernel
theorem dX3_isOfferAhead_77 : decode cX3_isOfferAhead 77 = .ok (.iaload, 1) := by decide +kernel
theorem dX3_isOfferAhead_78 : decode cX3_isOfferAhead 78 = .ok (.aload_n 0, 1) := by decide +kernel
theorem dX3_isOfferAhead_79 : decode cX3_isOfferAhead 79 = .ok (.getfield 28, 3) := by decide +kernel
theorem dX3_isOfferAhead_82 : decode cX3_isOfferAhead 82 = .ok (.getfield 170, 3) := by decide +kernel
theorem dX3_isOfferAhead_85 : decode cX3_isOfferAhead 85 = .ok (.iload_n 2, 1) := by decide +kernel
theorem dX3_isOfferAhead_86 : decode cX3_isOfferAhead 86 = .ok (.iaload, 1) := by decide +kernel
theorem dX3_isOfferAhead_87 : decode cX3_isOfferAhead 87 = .ok (.if_icmp .le 7, 3) := by decide +kernel
theorem dX3_isOfferAhead_90 : decode cX3_isOfferAhead 90 = .ok (.iconst 1, 1) := by decide +kernel
theorem dX3_isOfferAhead_91 : decode cX3_isOfferAhead 91 = .ok (.goto 4, 3) := by decide +kernel
theorem dX3_isOfferAhead_94 : decode cX3_isOfferAhead 94 = .ok (.iconst 0, 1) := by decide +kernel
theorem dX3_isOfferAhead_95 : decode cX3_isOfferAhead 95 = .ok (.ireturn, 1) := by decide +kernel
theorem dX3_isOfferAhead_96 : decode cX3_isOfferAhead 96 = .ok (.aload_n 0, 1) := by decide +kernel
theorem dX3_isOfferAhead_97 : decode cX3_isOfferAhead 97 = .ok (.getfield 28, 3) := by decide +kernel
theorem dX3_isOfferAhead_100 : decode cX3_isOfferAhead 100 = .ok (.getfield 146, 3) := by decide +kernel
theorem dX3_isOfferAhead_103 : decode cX3_isOfferAhead 103 = .ok (.iload_n 1, 1) := by decide +kernel
theorem dX3_isOfferAhead_104 : decode cX3_isOfferAhead 104 = .ok (.iaload, 1) := by decide +kernel
theorem dX3_isOfferAhead_105 : decode cX3_isOfferAhead 105 = .ok (.aload_n 0, 1) := by decide +kernel
theorem dX3_isOfferAhead_106 : decode cX3_isOfferAhead 106 = .ok (.getfield 28, 3) := by decide +kernel
theorem dX3_isOfferAhead_109 : decode cX3_isOfferAhead 109 = .ok (.getfield 146, 3) := by decide +kernel
theorem dX3_isOfferAhead_112 : decode cX3_isOfferAhead 112 = .ok (.iload_n 2, 1) := by decide +kernel
theorem dX3_isOfferAhead_113 : decode cX3_isOfferAhead 113 = .ok (.iaload, 1) := by decide +kernel
theorem dX3_isOfferAhead_114 : decode cX3_isOfferAhead 114 = .ok (.if_icmp .ge 7, 3) := by decide +kernel
theorem dX3_isOfferAhead_117 : decode cX3_isOfferAhead 117 = .ok (.iconst 1, 1) := by decide +kernel
theorem dX3_isOfferAhead_118 : decode cX3_isOfferAhead 118 = .ok (.goto 4, 3) := by decide +kernel
theorem dX3_isOfferAhead_121 : decode cX3_isOfferAhead 121 = .ok (.iconst 0, 1) := by decide +kernel
theorem dX3_isOfferAhead_122 : decode cX3_isOfferAhead 122 = .ok (.ireturn, 1) := by decide +kernel
theorem dX3_matchesAgree_0 : decode cX3_matchesAgree 0 = .ok (.iconst 0, 1) := by decide +kernel
theorem dX3_matchesAgree_1 : decode cX3_matchesAgree 1 = .ok (.istore_n 1, 1) := by decide +kernel
theorem dX3_matchesAgree_2 : decode cX3_matchesAgree 2 = .ok (.iload_n 1, 1) := by decide +kernel
theorem dX3_matchesAgree_3 : decode cX3_matchesAgree 3 = .ok (.aload_n 0, 1) := by decide +kernel
theorem dX3_matchesAgree_4 : decode cX3_matchesAgree 4 = .ok (.getfield 21, 3) := by decide +kernel
theorem dX3_matchesAgree_7 : decode cX3_matchesAgree 7 = .ok (.getfield 111, 3) := by decide +kernel
theorem dX3_matchesAgree_10 : decode cX3_matchesAgree 10 = .ok (.if_icmp .ge 24, 3) := by decide +kernel
theorem dX3_matchesAgree_13 : decode cX3_matchesAgree 13 = .ok (.aload_n 0, 1) := by decide +kernel
theorem dX3_matchesAgree_14 : decode cX3_matchesAgree 14 = .ok (.iload_n 1, 1) := by decide +kernel
theorem dX3_matchesAgree_15 : decode cX3_matchesAgree 15 = .ok (.invokevirtual 181, 3) := by decide +kernel
theorem dX3_matchesAgree_18 : decode cX3_matchesAgree 18 = .ok (.aload_n 0, 1) := by decide +kernel
theorem dX3_matchesAgree_19 : decode cX3_matchesAgree 19 = .ok (.iload_n 1, 1) := by decide +kernel
theorem dX3_matchesAgree_20 : decode cX3_matchesAgree 20 = .ok (.invokevirtual 184, 3) := by decide +kernel
theorem dX3_matchesAgree_23 : decode cX3_matchesAgree 23 = .ok (.if_icmp .eq 5, 3) := by decide +kernel
theorem dX3_matchesAgree_26 : decode cX3_matchesAgree 26 = .ok (.iconst 0, 1) := by decide +kernel
theorem dX3_matchesAgree_27 : decode cX3_matchesAgree 27 = .ok (.ireturn, 1) := by decide +kernel
theorem dX3_matchesAgree_28 : decode cX3_matchesAgree 28 = .ok (.iinc 1 1, 3) := by decide +kernel
theorem dX3_matchesAgree_31 : decode cX3_matchesAgree 31 = .ok (.goto (-29), 3) := by decide +kernel
theorem dX3_matchesAgree_34 : decode cX3_matchesAgree 34 = .ok (.iconst 1, 1) := by decide +kernel
theorem dX3_matchesAgree_35 : decode cX3_matchesAgree 35 = .ok (.ireturn, 1) := by decide +kernel
theorem dX3_shipsKeepReserves_0 : decode cX3_shipsKeepReserves 0 = .ok (.iconst 0, 1) := by decide +kernel
theorem dX3_shipsKeepReserves_1 : decode cX3_shipsKeepReserves 1 = .ok (.istore_n 1, 1) := by decide +kernel
theorem dX3_shipsKeepReserves_2 : decode cX3_shipsKeepReserves 2 = .ok (.iload_n 1, 1) := by decide +kernel
theorem dX3_shipsKeepReserves_3 : decode cX3_shipsKeepReserves 3 = .ok (.aload_n 0, 1) := by decide +kernel
theorem dX3_shipsKeepReserves_4 : decode cX3_shipsKeepReserves 4 = .ok (.getfield 12, 3) := by decide +kernel
theorem dX3_shipsKeepReserves_7 : decode cX3_shipsKeepReserves 7 = .ok (.getfield 121, 3) := by decide +kernel
theorem dX3_shipsKeepReserves_10 : decode cX3_shipsKeepReserves 10 = .ok (.if_icmp .ge 27, 3) := by decide +kernel
theorem dX3_shipsKeepReserves_13 : decode cX3_shipsKeepReserves 13 = .ok (.aload_n 0, 1) := by decide +kernel
theorem dX3_shipsKeepReserves_14 : decode cX3_shipsKeepReserves 14 = .ok (.iload_n 1, 1) := by decide +kernel
theorem dX3_shipsKeepReserves_15 : decode cX3_shipsKeepReserves 15 = .ok (.invokevirtual 134, 3) := by decide +kernel
theorem dX3_shipsKeepReserves_18 : decode cX3_shipsKeepReserves 18 = .ok (.ifCond .lt 11, 3) := by decide +kernel
theorem dX3_shipsKeepReserves_21 : decode cX3_shipsKeepReserves 21 = .ok (.aload_n 0, 1) := by decide +kernel
theorem dX3_shipsKeepReserves_22 : decode cX3_shipsKeepReserves 22 = .ok (.iload_n 1, 1) := by decide +kernel
theorem dX3_shipsKeepReserves_23 : decode cX3_shipsKeepReserves 23 = .ok (.invokevirtual 131, 3) := by decide +kernel
theorem dX3_shipsKeepReserves_26 : decode cX3_shipsKeepReserves 26 = .ok (.ifCond .ge 5, 3) := by decide +kernel
theorem dX3_shipsKeepReserves_29 : decode cX3_shipsKeepReserves 29 = .ok (.iconst 0, 1) := by decide +kernel
theorem dX3_shipsKeepReserves_30 : decode cX3_shipsKeepReserves 30 = .ok (.ireturn, 1) := by decide +kernel
theorem dX3_shipsKeepReserves_31 : decode cX3_shipsKeepReserves 31 = .ok (.iinc 1 1, 3) := by decide +kernel
theorem dX3_shipsKeepReserves_34 : decode cX3_shipsKeepReserves 34 = .ok (.goto (-32), 3) := by decide +kernel
theorem dX3_shipsKeepReserves_37 : decode cX3_shipsKeepReserves 37 = .ok (.iconst 1, 1) := by decide +kernel
theorem dX3_shipsKeepReserves_38 : decode cX3_shipsKeepReserves 38 = .ok (.ireturn, 1) := by decide +kernel
theorem dX3_letTidePass_0 : decode cX3_letTidePass 0 = .ok (.aload_n 0, 1) := by decide +kernel
theorem dX3_letTidePass_1 : decode cX3_letTidePass 1 = .ok (.getfield 34, 3) := by decide +kernel
theorem dX3_letTidePass_4 : decode cX3_letTidePass 4 = .ok (.getfield 187, 3) := by decide +kernel
theorem dX3_letTidePass_7 : decode cX3_letTidePass 7 = .ok (.istore_n 1, 1) := by decide +kernel
theorem dX3_letTidePass_8 : decode cX3_letTidePass 8 = .ok (.aload_n 0, 1) := by decide +kernel
theorem dX3_letTidePass_9 : decode cX3_letTidePass 9 = .ok (.invokevirtual 190, 3) := by decide +kernel
theorem dX3_letTidePass_12 : decode cX3_letTidePass 12 = .ok (.aload_n 0, 1) := by decide +kernel
theorem dX3_letTidePass_13 : decode cX3_letTidePass 13 = .ok (.dup, 1) := by decide +kernel
theorem dX3_letTidePass_14 : decode cX3_letTidePass 14 = .ok (.getfield 45, 3) := by decide +kernel
theorem dX3_letTidePass_17 : decode cX3_letTidePass 17 = .ok (.aload_n 0, 1) := by decide +kernel
theorem dX3_letTidePass_18 : decode cX3_letTidePass 18 = .ok (.getfield 21, 3) := by decide +kernel
theorem dX3_letTidePass_21 : decode cX3_letTidePass 21 = .ok (.invokevirtual 193, 3) := by decide +kernel
theorem dX3_letTidePass_24 : decode cX3_letTidePass 24 = .ok (.iadd, 1) := by decide +kernel
theorem dX3_letTidePass_25 : decode cX3_letTidePass 25 = .ok (.putfield 45, 3) := by decide +kernel
theorem dX3_letTidePass_28 : decode cX3_letTidePass 28 = .ok (.aload_n 0, 1) := by decide +kernel
theorem dX3_letTidePass_29 : decode cX3_letTidePass 29 = .ok (.dup, 1) := by decide +kernel
theorem dX3_letTidePass_30 : decode cX3_letTidePass 30 = .ok (.getfield 45, 3) := by decide +kernel
theorem dX3_letTidePass_33 : decode cX3_letTidePass 33 = .ok (.aload_n 0, 1) := by decide +kernel
theorem dX3_letTidePass_34 : decode cX3_letTidePass 34 = .ok (.getfield 28, 3) := by decide +kernel
theorem dX3_letTidePass_37 : decode cX3_letTidePass 37 = .ok (.invokevirtual 193, 3) := by decide +kernel
theorem dX3_letTidePass_40 : decode cX3_letTidePass 40 = .ok (.iadd, 1) := by decide +kernel
theorem dX3_letTidePass_41 : decode cX3_letTidePass 41 = .ok (.putfield 45, 3) := by decide +kernel
theorem dX3_letTidePass_44 : decode cX3_letTidePass 44 = .ok (.aload_n 0, 1) := by decide +kernel
theorem dX3_letTidePass_45 : decode cX3_letTidePass 45 = .ok (.dup, 1) := by decide +kernel
theorem dX3_letTidePass_46 : decode cX3_letTidePass 46 = .ok (.getfield 42, 3) := by decide +kernel
theorem dX3_letTidePass_49 : decode cX3_letTidePass 49 = .ok (.iconst 1, 1) := by decide +kernel
theorem dX3_letTidePass_50 : decode cX3_letTidePass 50 = .ok (.iadd, 1) := by decide +kernel
theorem dX3_letTidePass_51 : decode cX3_letTidePass 51 = .ok (.putfield 42, 3) := by decide +kernel
theorem dX3_letTidePass_54 : decode cX3_letTidePass 54 = .ok (.aload_n 0, 1) := by decide +kernel
theorem dX3_letTidePass_55 : decode cX3_letTidePass 55 = .ok (.getfield 34, 3) := by decide +kernel
theorem dX3_letTidePass_58 : decode cX3_letTidePass 58 = .ok (.getfield 187, 3) := by decide +kernel
theorem dX3_letTidePass_61 : decode cX3_letTidePass 61 = .ok (.iload_n 1, 1) := by decide +kernel
theorem dX3_letTidePass_62 : decode cX3_letTidePass 62 = .ok (.isub, 1) := by decide +kernel
theorem dX3_letTidePass_63 : decode cX3_letTidePass 63 = .ok (.ireturn, 1) := by decide +kernel
theorem dX3_holdAuction_0 : decode cX3_holdAuction 0 = .ok (.iconst 0, 1) := by decide +kernel
theorem dX3_holdAuction_1 : decode cX3_holdAuction 1 = .ok (.istore_n 1, 1) := by decide +kernel
theorem dX3_holdAuction_2 : decode cX3_holdAuction 2 = .ok (.aload_n 0, 1) := by decide +kernel
theorem dX3_holdAuction_3 : decode cX3_holdAuction 3 = .ok (.getfield 21, 3) := by decide +kernel
theorem dX3_holdAuction_6 : decode cX3_holdAuction 6 = .ok (.getfield 111, 3) := by decide +kernel
theorem dX3_holdAuction_9 : decode cX3_holdAuction 9 = .ok (.istore_n 2, 1) := by decide +kernel
theorem dX3_holdAuction_10 : decode cX3_holdAuction 10 = .ok (.iload_n 2, 1) := by decide +kernel
theorem dX3_holdAuction_11 : decode cX3_holdAuction 11 = .ok (.ifCond .le 48, 3) := by decide +kernel
theorem dX3_holdAuction_14 : decode cX3_holdAuction 14 = .ok (.aload_n 0, 1) := by decide +kernel
theorem dX3_holdAuction_15 : decode cX3_holdAuction 15 = .ok (.iload_n 1, 1) := by decide +kernel
theorem dX3_holdAuction_16 : decode cX3_holdAuction 16 = .ok (.invokevirtual 181, 3) := by decide +kernel
theorem dX3_holdAuction_19 : decode cX3_holdAuction 19 = .ok (.istore_n 3, 1) := by decide +kernel
theorem dX3_holdAuction_20 : decode cX3_holdAuction 20 = .ok (.iload_n 3, 1) := by decide +kernel
theorem dX3_holdAuction_21 : decode cX3_holdAuction 21 = .ok (.iconst (-1), 1) := by decide +kernel
theorem dX3_holdAuction_22 : decode cX3_holdAuction 22 = .ok (.if_icmp .ne 9, 3) := by decide +kernel
theorem dX3_holdAuction_25 : decode cX3_holdAuction 25 = .ok (.iinc 1 1, 3) := by decide +kernel
theorem dX3_holdAuction_28 : decode cX3_holdAuction 28 = .ok (.goto 25, 3) := by decide +kernel
theorem dX3_holdAuction_31 : decode cX3_holdAuction 31 = .ok (.aload_n 0, 1) := by decide +kernel
theorem dX3_holdAuction_32 : decode cX3_holdAuction 32 = .ok (.iload_n 1, 1) := by decide +kernel
theorem dX3_holdAuction_33 : decode cX3_holdAuction 33 = .ok (.iload_n 3, 1) := by decide +kernel
theorem dX3_holdAuction_34 : decode cX3_holdAuction 34 = .ok (.invokevirtual 196, 3) := by decide +kernel
theorem dX3_holdAuction_37 : decode cX3_holdAuction 37 = .ok (.aload_n 0, 1) := by decide +kernel
theorem dX3_holdAuction_38 : decode cX3_holdAuction 38 = .ok (.getfield 21, 3) := by decide +kernel
theorem dX3_holdAuction_41 : decode cX3_holdAuction 41 = .ok (.iload_n 1, 1) := by decide +kernel
theorem dX3_holdAuction_42 : decode cX3_holdAuction 42 = .ok (.invokevirtual 107, 3) := by decide +kernel
theorem dX3_holdAuction_45 : decode cX3_holdAuction 45 = .ok (.aload_n 0, 1) := by decide +kernel
theorem dX3_holdAuction_46 : decode cX3_holdAuction 46 = .ok (.getfield 28, 3) := by decide +kernel
theorem dX3_holdAuction_49 : decode cX3_holdAuction 49 = .ok (.iload_n 3, 1) := by decide +kernel
theorem dX3_holdAuction_50 : decode cX3_holdAuction 50 = .ok (.invokevirtual 107, 3) := by decide +kernel
theorem dX3_holdAuction_53 : decode cX3_holdAuction 53 = .ok (.iinc 2 (-1), 3) := by decide +kernel
theorem dX3_holdAuction_56 : decode cX3_holdAuction 56 = .ok (.goto (-46), 3) := by decide +kernel
theorem dX3_holdAuction_59 : decode cX3_holdAuction 59 = .ok (.return_, 1) := by decide +kernel
theorem dX3_trade_0 : decode cX3_trade 0 = .ok (.aload_n 0, 1) := by decide +kernel
theorem dX3_trade_1 : decode cX3_trade 1 = .ok (.getfield 21, 3) := by decide +kernel
theorem dX3_trade_4 : decode cX3_trade 4 = .ok (.getfield 167, 3) := by decide +kernel
theorem dX3_trade_7 : decode cX3_trade 7 = .ok (.iload_n 1, 1) := by decide +kernel
theorem dX3_trade_8 : decode cX3_trade 8 = .ok (.iaload, 1) := by decide +kernel
theorem dX3_trade_9 : decode cX3_trade 9 = .ok (.istore_n 3, 1) := by decide +kernel
theorem dX3_trade_10 : decode cX3_trade 10 = .ok (.aload_n 0, 1) := by decide +kernel
theorem dX3_trade_11 : decode cX3_trade 11 = .ok (.getfield 28, 3) := by decide +kernel
theorem dX3_trade_14 : decode cX3_trade 14 = .ok (.getfield 167, 3) := by decide +kernel
theorem dX3_trade_17 : decode cX3_trade 17 = .ok (.iload_n 2, 1) := by decide +kernel
theorem dX3_trade_18 : decode cX3_trade 18 = .ok (.iaload, 1) := by decide +kernel
theorem dX3_trade_19 : decode cX3_trade 19 = .ok (.istore 4, 2) := by decide +kernel
theorem dX3_trade_21 : decode cX3_trade 21 = .ok (.aload_n 0, 1) := by decide +kernel
theorem dX3_trade_22 : decode cX3_trade 22 = .ok (.getfield 12, 3) := by decide +kernel
theorem dX3_trade_25 : decode cX3_trade 25 = .ok (.getfield 164, 3) := by decide +kernel
theorem dX3_trade_28 : decode cX3_trade 28 = .ok (.iload 4, 2) := by decide +kernel
theorem dX3_trade_30 : decode cX3_trade 30 = .ok (.iaload, 1) := by decide +kernel
theorem dX3_trade_31 : decode cX3_trade 31 = .ok (.istore 5, 2) := by decide +kernel
theorem dX3_trade_33 : decode cX3_trade 33 = .ok (.aload_n 0, 1) := by decide +kernel
theorem dX3_trade_34 : decode cX3_trade 34 = .ok (.getfield 21, 3) := by decide +kernel
theorem dX3_trade_37 : decode cX3_trade 37 = .ok (.getfield 171, 3) := by decide +kernel
theorem dX3_trade_40 : decode cX3_trade 40 = .ok (.iload_n 1, 1) := by decide +kernel
theorem dX3_trade_41 : decode cX3_trade 41 = .ok (.iaload, 1) := by decide +kernel
theorem dX3_trade_42 : decode cX3_trade 42 = .ok (.aload_n 0, 1) := by decide +kernel
theorem dX3_trade_43 : decode cX3_trade 43 = .ok (.getfield 28, 3) := by decide +kernel
theorem dX3_trade_46 : decode cX3_trade 46 = .ok (.getfield 171, 3) := by decide +kernel
theorem dX3_trade_49 : decode cX3_trade 49 = .ok (.iload_n 2, 1) := by decide +kernel
theorem dX3_trade_50 : decode cX3_trade 50 = .ok (.iaload, 1) := by decide +kernel
theorem dX3_trade_51 : decode cX3_trade 51 = .ok (.iadd, 1) := by decide +kernel
theorem dX3_trade_52 : decode cX3_trade 52 = .ok (.iconst 2, 1) := by decide +kernel
theorem dX3_trade_53 : decode cX3_trade 53 = .ok (.idiv, 1) := by decide +kernel
theorem dX3_trade_54 : decode cX3_trade 54 = .ok (.istore 6, 2) := by decide +kernel
theorem dX3_trade_56 : decode cX3_trade 56 = .ok (.aload_n 0, 1) := by decide +kernel
theorem dX3_trade_57 : decode cX3_trade 57 = .ok (.getfield 38, 3) := by decide +kernel
theorem dX3_trade_60 : decode cX3_trade 60 = .ok (.iload 6, 2) := by decide +kernel
theorem dX3_trade_62 : decode cX3_trade 62 = .ok (.invokestatic 200, 3) := by decide +kernel
theorem dX3_trade_65 : decode cX3_trade 65 = .ok (.istore 7, 2) := by decide +kernel
theorem dX3_trade_67 : decode cX3_trade 67 = .ok (.aload_n 0, 1) := by decide +kernel
theorem dX3_trade_68 : decode cX3_trade 68 = .ok (.getfield 12, 3) := by decide +kernel
theorem dX3_trade_71 : decode cX3_trade 71 = .ok (.getfield 97, 3) := by decide +kernel
theorem dX3_trade_74 : decode cX3_trade 74 = .ok (.iload_n 3, 1) := by decide +kernel
theorem dX3_trade_75 : decode cX3_trade 75 = .ok (.dup2, 1) := by decide +kernel
theorem dX3_trade_76 : decode cX3_trade 76 = .ok (.iaload, 1) := by decide +kernel
theorem dX3_trade_77 : decode cX3_trade 77 = .ok (.iload 6, 2) := by decide +kernel
theorem dX3_trade_79 : decode cX3_trade 79 = .ok (.isub, 1) := by decide +kernel
theorem dX3_trade_80 : decode cX3_trade 80 = .ok (.iastore, 1) := by decide +kernel
theorem dX3_trade_81 : decode cX3_trade 81 = .ok (.aload_n 0, 1) := by decide +kernel
theorem dX3_trade_82 : decode cX3_trade 82 = .ok (.getfield 12, 3) := by decide +kernel
theorem dX3_trade_85 : decode cX3_trade 85 = .ok (.getfield 97, 3) := by decide +kernel
theorem dX3_trade_88 : decode cX3_trade 88 = .ok (.iload 5, 2) := by decide +kernel
theorem dX3_trade_90 : decode cX3_trade 90 = .ok (.dup2, 1) := by decide +kernel
theorem dX3_trade_91 : decode cX3_trade 91 = .ok (.iaload, 1) := by decide +kernel
theorem dX3_trade_92 : decode cX3_trade 92 = .ok (.iload 6, 2) := by decide +kernel
theorem dX3_trade_94 : decode cX3_trade 94 = .ok (.iload 7, 2) := by decide +kernel
theorem dX3_trade_96 : decode cX3_trade 96 = .ok (.isub, 1) := by decide +kernel
theorem dX3_trade_97 : decode cX3_trade 97 = .ok (.iadd, 1) := by decide +kernel
theorem dX3_trade_98 : decode cX3_trade 98 = .ok (.iastore, 1) := by decide +kernel
theorem dX3_trade_99 : decode cX3_trade 99 = .ok (.aload_n 0, 1) := by decide +kernel
theorem dX3_trade_100 : decode cX3_trade 100 = .ok (.dup, 1) := by decide +kernel
theorem dX3_trade_101 : decode cX3_trade 101 = .ok (.getfield 48, 3) := by decide +kernel
theorem dX3_trade_104 : decode cX3_trade 104 = .ok (.iload 7, 2) := by decide +kernel
theorem dX3_trade_106 : decode cX3_trade 106 = .ok (.iadd, 1) := by decide +kernel
theorem dX3_trade_107 : decode cX3_trade 107 = .ok (.putfield 48, 3) := by decide +kernel
theorem dX3_trade_110 : decode cX3_trade 110 = .ok (.aload_n 0, 1) := by decide +kernel
theorem dX3_trade_111 : decode cX3_trade 111 = .ok (.getfield 12, 3) := by decide +kernel
theorem dX3_trade_114 : decode cX3_trade 114 = .ok (.getfield 164, 3) := by decide +kernel
theorem dX3_trade_117 : decode cX3_trade 117 = .ok (.iload 4, 2) := by decide +kernel
theorem dX3_trade_119 : decode cX3_trade 119 = .ok (.iload_n 3, 1) := by decide +kernel
theorem dX3_trade_120 : decode cX3_trade 120 = .ok (.iastore, 1) := by decide +kernel
theorem dX3_trade_121 : decode cX3_trade 121 = .ok (.aload_n 0, 1) := by decide +kernel
theorem dX3_trade_122 : decode cX3_trade 122 = .ok (.getfield 34, 3) := by decide +kernel
theorem dX3_trade_125 : decode cX3_trade 125 = .ok (.iload_n 3, 1) := by decide +kernel
theorem dX3_trade_126 : decode cX3_trade 126 = .ok (.iload 5, 2) := by decide +kernel
theorem dX3_trade_128 : decode cX3_trade 128 = .ok (.iload 4, 2) := by decide +kernel
theorem dX3_trade_130 : decode cX3_trade 130 = .ok (.iload 6, 2) := by decide +kernel
theorem dX3_trade_132 : decode cX3_trade 132 = .ok (.invokevirtual 205, 3) := by decide +kernel
theorem dX3_trade_135 : decode cX3_trade 135 = .ok (.return_, 1) := by decide +kernel
theorem dX4_init_0 : decode cX4_init 0 = .ok (.aload_n 0, 1) := by decide +kernel
theorem dX4_init_1 : decode cX4_init 1 = .ok (.bipush 16, 2) := by decide +kernel
theorem dX4_init_3 : decode cX4_init 3 = .ok (.invokespecial 3, 3) := by decide +kernel
theorem dX4_init_6 : decode cX4_init 6 = .ok (.return_, 1) := by decide +kernel
theorem dX4_comesAhead_0 : decode cX4_comesAhead 0 = .ok (.iload_n 2, 1) := by decide +kernel
theorem dX4_comesAhead_1 : decode cX4_comesAhead 1 = .ok (.aload_n 0, 1) := by decide +kernel
theorem dX4_comesAhead_2 : decode cX4_comesAhead 2 = .ok (.getfield 9, 3) := by decide +kernel
theorem dX4_comesAhead_5 : decode cX4_comesAhead 5 = .ok (.iload_n 3, 1) := by decide +kernel
theorem dX4_comesAhead_6 : decode cX4_comesAhead 6 = .ok (.iaload, 1) := by decide +kernel
theorem dX4_comesAhead_7 : decode cX4_comesAhead 7 = .ok (.if_icmp .lt 23, 3) := by decide +kernel
theorem dX4_comesAhead_10 : decode cX4_comesAhead 10 = .ok (.iload_n 2, 1) := by decide +kernel
theorem dX4_comesAhead_11 : decode cX4_comesAhead 11 = .ok (.aload_n 0, 1) := by decide +kernel
theorem dX4_comesAhead_12 : decode cX4_comesAhead 12 = .ok (.getfield 9, 3) := by decide +kernel
theorem dX4_comesAhead_15 : decode cX4_comesAhead 15 = .ok (.iload_n 3, 1) := by decide +kernel
theorem dX4_comesAhead_16 : decode cX4_comesAhead 16 = .ok (.iaload, 1) := by decide +kernel
theorem dX4_comesAhead_17 : decode cX4_comesAhead 17 = .ok (.if_icmp .ne 17, 3) := by decide +kernel
theorem dX4_comesAhead_20 : decode cX4_comesAhead 20 = .ok (.iload_n 1, 1) := by decide +kernel
theorem dX4_comesAhead_21 : decode cX4_comesAhead 21 = .ok (.aload_n 0, 1) := by decide +kernel
theorem dX4_comesAhead_22 : decode cX4_comesAhead 22 = .ok (.getfield 15, 3) := by decide +kernel
theorem dX4_comesAhead_25 : decode cX4_comesAhead 25 = .ok (.iload_n 3, 1) := by decide +kernel
theorem dX4_comesAhead_26 : decode cX4_comesAhead 26 = .ok (.iaload, 1) := by decide +kernel
theorem dX4_comesAhead_27 : decode cX4_comesAhead 27 = .ok (.if_icmp .le 7, 3) := by decide +kernel
theorem dX4_comesAhead_30 : decode cX4_comesAhead 30 = .ok (.iconst 1, 1) := by decide +kernel
theorem dX4_comesAhead_31 : decode cX4_comesAhead 31 = .ok (.goto 4, 3) := by decide +kernel
theorem dX4_comesAhead_34 : decode cX4_comesAhead 34 = .ok (.iconst 0, 1) := by decide +kernel
theorem dX4_comesAhead_35 : decode cX4_comesAhead 35 = .ok (.ireturn, 1) := by decide +kernel
theorem dX5_init_0 : decode cX5_init 0 = .ok (.aload_n 0, 1) := by decide +kernel
theorem dX5_init_1 : decode cX5_init 1 = .ok (.invokespecial 3, 3) := by decide +kernel
theorem dX5_init_4 : decode cX5_init 4 = .ok (.aload_n 0, 1) := by decide +kernel
theorem dX5_init_5 : decode cX5_init 5 = .ok (.iconst 0, 1) := by decide +kernel
theorem dX5_init_6 : decode cX5_init 6 = .ok (.putfield 9, 3) := by decide +kernel
theorem dX5_init_9 : decode cX5_init 9 = .ok (.aload_n 0, 1) := by decide +kernel
theorem dX5_init_10 : decode cX5_init 10 = .ok (.iconst 0, 1) := by decide +kernel
theorem dX5_init_11 : decode cX5_init 11 = .ok (.putfield 15, 3) := by decide +kernel
theorem dX5_init_14 : decode cX5_init 14 = .ok (.aload_n 0, 1) := by decide +kernel
theorem dX5_init_15 : decode cX5_init 15 = .ok (.iload_n 1, 1) := by decide +kernel
theorem dX5_init_16 : decode cX5_init 16 = .ok (.newarray .int, 2) := by decide +kernel
theorem dX5_init_18 : decode cX5_init 18 = .ok (.putfield 18, 3) := by decide +kernel
theorem dX5_init_21 : decode cX5_init 21 = .ok (.aload_n 0, 1) := by decide +kernel
theorem dX5_init_22 : decode cX5_init 22 = .ok (.iload_n 1, 1) := by decide +kernel
theorem dX5_init_23 : decode cX5_init 23 = .ok (.newarray .int, 2) := by decide +kernel
theorem dX5_init_25 : decode cX5_init 25 = .ok (.putfield 22, 3) := by decide +kernel
theorem dX5_init_28 : decode cX5_init 28 = .ok (.aload_n 0, 1) := by decide +kernel
theorem dX5_init_29 : decode cX5_init 29 = .ok (.iload_n 1, 1) := by decide +kernel
theorem dX5_init_30 : decode cX5_init 30 = .ok (.newarray .int, 2) := by decide +kernel
theorem dX5_init_32 : decode cX5_init 32 = .ok (.putfield 25, 3) := by decide +kernel
theorem dX5_init_35 : decode cX5_init 35 = .ok (.aload_n 0, 1) := by decide +kernel
theorem dX5_init_36 : decode cX5_init 36 = .ok (.iload_n 1, 1) := by decide +kernel
theorem dX5_init_37 : decode cX5_init 37 = .ok (.newarray .int, 2) := by decide +kernel
theorem dX5_init_39 : decode cX5_init 39 = .ok (.putfield 28, 3) := by decide +kernel
theorem dX5_init_42 : decode cX5_init 42 = .ok (.aload_n 0, 1) := by decide +kernel
theorem dX5_init_43 : decode cX5_init 43 = .ok (.iload_n 1, 1) := by decide +kernel
theorem dX5_init_44 : decode cX5_init 44 = .ok (.newarray .int, 2) := by decide +kernel
theorem dX5_init_46 : decode cX5_init 46 = .ok (.putfield 31, 3) := by decide +kernel
theorem dX5_init_49 : decode cX5_init 49 = .ok (.return_, 1) := by decide +kernel
theorem dX5_copyFrom_0 : decode cX5_copyFrom 0 = .ok (.aload_n 0, 1) := by decide +kernel
theorem dX5_copyFrom_1 : decode cX5_copyFrom 1 = .ok (.aload_n 1, 1) := by decide +kernel
theorem dX5_copyFrom_2 : decode cX5_copyFrom 2 = .ok (.getfield 9, 3) := by decide +kernel
theorem dX5_copyFrom_5 : decode cX5_copyFrom 5 = .ok (.putfield 9, 3) := by decide +kernel
theorem dX5_copyFrom_8 : decode cX5_copyFrom 8 = .ok (.aload_n 0, 1) := by decide +kernel
theorem dX5_copyFrom_9 : decode cX5_copyFrom 9 = .ok (.aload_n 1, 1) := by decide +kernel
theorem dX5_copyFrom_10 : decode cX5_copyFrom 10 = .ok (.getfield 15, 3) := by decide +kernel
theorem dX5_copyFrom_13 : decode cX5_copyFrom 13 = .ok (.putfield 15, 3) := by decide +kernel
theorem dX5_copyFrom_16 : decode cX5_copyFrom 16 = .ok (.aload_n 1, 1) := by decide +kernel
theorem dX5_copyFrom_17 : decode cX5_copyFrom 17 = .ok (.getfield 18, 3) := by decide +kernel
theorem dX5_copyFrom_20 : decode cX5_copyFrom 20 = .ok (.iconst 0, 1) := by decide +kernel
theorem dX5_copyFrom_21 : decode cX5_copyFrom 21 = .ok (.aload_n 0, 1) := by decide +kernel
theorem dX5_copyFrom_22 : decode cX5_copyFrom 22 = .ok (.getfield 18, 3) := by decide +kernel
theorem dX5_copyFrom_25 : decode cX5_copyFrom 25 = .ok (.iconst 0, 1) := by decide +kernel
theorem dX5_copyFrom_26 : decode cX5_copyFrom 26 = .ok (.aload_n 0, 1) := by decide +kernel
theorem dX5_copyFrom_27 : decode cX5_copyFrom 27 = .ok (.getfield 9, 3) := by decide +kernel
theorem dX5_copyFrom_30 : decode cX5_copyFrom 30 = .ok (.invokestatic 34, 3) := by decide +kernel
theorem dX5_copyFrom_33 : decode cX5_copyFrom 33 = .ok (.aload_n 1, 1) := by decide +kernel
theorem dX5_copyFrom_34 : decode cX5_copyFrom 34 = .ok (.getfield 22, 3) := by decide +kernel
theorem dX5_copyFrom_37 : decode cX5_copyFrom 37 = .ok (.iconst 0, 1) := by decide +kernel
theorem dX5_copyFrom_38 : decode cX5_copyFrom 38 = .ok (.aload_n 0, 1) := by decide +kernel
theorem dX5_copyFrom_39 : decode cX5_copyFrom 39 = .ok (.getfield 22, 3) := by decide +kernel
theorem dX5_copyFrom_42 : decode cX5_copyFrom 42 = .ok (.iconst 0, 1) := by decide +kernel
theorem dX5_copyFrom_43 : decode cX5_copyFrom 43 = .ok (.aload_n 0, 1) := by decide +kernel
theorem dX5_copyFrom_44 : decode cX5_copyFrom 44 = .ok (.getfield 9, 3) := by decide +kernel
theorem dX5_copyFrom_47 : decode cX5_copyFrom 47 = .ok (.invokestatic 34, 3) := by decide +kernel
theorem dX5_copyFrom_50 : decode cX5_copyFrom 50 = .ok (.aload_n 1, 1) := by decide +kernel
theorem dX5_copyFrom_51 : decode cX5_copyFrom 51 = .ok (.getfield 25, 3) := by decide +kernel
theorem dX5_copyFrom_54 : decode cX5_copyFrom 54 = .ok (.iconst 0, 1) := by decide +kernel
theorem dX5_copyFrom_55 : decode cX5_copyFrom 55 = .ok (.aload_n 0, 1) := by decide +kernel
theorem dX5_copyFrom_56 : decode cX5_copyFrom 56 = .ok (.getfield 25, 3) := by decide +kernel
theorem dX5_copyFrom_59 : decode cX5_copyFrom 59 = .ok (.iconst 0, 1) := by decide +kernel
theorem dX5_copyFrom_60 : decode cX5_copyFrom 60 = .ok (.aload_n 0, 1) := by decide +kernel
theorem dX5_copyFrom_61 : decode cX5_copyFrom 61 = .ok (.getfield 9, 3) := by decide +kernel
theorem dX5_copyFrom_64 : decode cX5_copyFrom 64 = .ok (.invokestatic 34, 3) := by decide +kernel
theorem dX5_copyFrom_67 : decode cX5_copyFrom 67 = .ok (.aload_n 1, 1) := by decide +kernel
theorem dX5_copyFrom_68 : decode cX5_copyFrom 68 = .ok (.getfield 28, 3) := by decide +kernel
theorem dX5_copyFrom_71 : decode cX5_copyFrom 71 = .ok (.iconst 0, 1) := by decide +kernel
theorem dX5_copyFrom_72 : decode cX5_copyFrom 72 = .ok (.aload_n 0, 1) := by decide +kernel
theorem dX5_copyFrom_73 : decode cX5_copyFrom 73 = .ok (.getfield 28, 3) := by decide +kernel
theorem dX5_copyFrom_76 : decode cX5_copyFrom 76 = .ok (.iconst 0, 1) := by decide +kernel
theorem dX5_copyFrom_77 : decode cX5_copyFrom 77 = .ok (.aload_n 0, 1) := by decide +kernel
theorem dX5_copyFrom_78 : decode cX5_copyFrom 78 = .ok (.getfield 9, 3) := by decide +kernel
theorem dX5_copyFrom_81 : decode cX5_copyFrom 81 = .ok (.invokestatic 34, 3) := by decide +kernel
theorem dX5_copyFrom_84 : decode cX5_copyFrom 84 = .ok (.aload_n 1, 1) := by decide +kernel
theorem dX5_copyFrom_85 : decode cX5_copyFrom 85 = .ok (.getfield 31, 3) := by decide +kernel
theorem dX5_copyFrom_88 : decode cX5_copyFrom 88 = .ok (.iconst 0, 1) := by decide +kernel
theorem dX5_copyFrom_89 : decode cX5_copyFrom 89 = .ok (.aload_n 0, 1) := by decide +kernel
theorem dX5_copyFrom_90 : decode cX5_copyFrom 90 = .ok (.getfield 31, 3) := by decide +kernel
theorem dX5_copyFrom_93 : decode cX5_copyFrom 93 = .ok (.iconst 0, 1) := by decide +kernel
theorem dX5_copyFrom_94 : decode cX5_copyFrom 94 = .ok (.aload_n 0, 1) := by decide +kernel
theorem dX5_copyFrom_95 : decode cX5_copyFrom 95 = .ok (.getfield 9, 3) := by decide +kernel
theorem dX5_copyFrom_98 : decode cX5_copyFrom 98 = .ok (.invokestatic 34, 3) := by decide +kernel
theorem dX5_copyFrom_101 : decode cX5_copyFrom 101 = .ok (.return_, 1) := by decide +kernel
theorem dX5_enter_0 : decode cX5_enter 0 = .ok (.iconst 0, 1) := by decide +kernel
theorem dX5_enter_1 : decode cX5_enter 1 = .ok (.istore 4, 2) := by decide +kernel
theorem dX5_enter_3 : decode cX5_enter 3 = .ok (.iload 4, 2) := by decide +kernel
theorem dX5_enter_5 : decode cX5_enter 5 = .ok (.aload_n 0, 1) := by decide +kernel
theorem dX5_enter_6 : decode cX5_enter 6 = .ok (.getfield 9, 3) := by decide +kernel
theorem dX5_enter_9 : decode cX5_enter 9 = .ok (.if_icmp .ge 20, 3) := by decide +kernel
theorem dX5_enter_12 : decode cX5_enter 12 = .ok (.aload_n 0, 1) := by decide +kernel
theorem dX5_enter_13 : decode cX5_enter 13 = .ok (.iload_n 2, 1) := by decide +kernel
theorem dX5_enter_14 : decode cX5_enter 14 = .ok (.iload_n 3, 1) := by decide +kernel
theorem dX5_enter_15 : decode cX5_enter 15 = .ok (.iload 4, 2) := by decide +kernel
theorem dX5_enter_17 : decode cX5_enter 17 = .ok (.invokevirtual 40, 3) := by decide +kernel
theorem dX5_enter_20 : decode cX5_enter 20 = .ok (.ifCond .ne 9, 3) := by decide +kernel
theorem dX5_enter_23 : decode cX5_enter 23 = .ok (.iinc 4 1, 3) := by decide +kernel
theorem dX5_enter_26 : decode cX5_enter 26 = .ok (.goto (-23), 3) := by decide +kernel
theorem dX5_enter_29 : decode cX5_enter 29 = .ok (.aload_n 0, 1) := by decide +kernel
theorem dX5_enter_30 : decode cX5_enter 30 = .ok (.iload 4, 2) := by decide +kernel
theorem dX5_enter_32 : decode cX5_enter 32 = .ok (.iload 4, 2) := by decide +kernel
theorem dX5_enter_34 : decode cX5_enter 34 = .ok (.iconst 1, 1) := by decide +kernel
theorem dX5_enter_35 : decode cX5_enter 35 = .ok (.iadd, 1) := by decide +kernel
theorem dX5_enter_36 : decode cX5_enter 36 = .ok (.aload_n 0, 1) := by decide +kernel
theorem dX5_enter_37 : decode cX5_enter 37 = .ok (.getfield 9, 3) := by decide +kernel
theorem dX5_enter_40 : decode cX5_enter 40 = .ok (.iload 4, 2) := by decide +kernel
theorem dX5_enter_42 : decode cX5_enter 42 = .ok (.isub, 1) := by decide +kernel
theorem dX5_enter_43 : decode cX5_enter 43 = .ok (.invokevirtual 44, 3) := by decide +kernel
theorem dX5_enter_46 : decode cX5_enter 46 = .ok (.aload_n 0, 1) := by decide +kernel
theorem dX5_enter_47 : decode cX5_enter 47 = .ok (.dup, 1) := by decide +kernel
theorem dX5_enter_48 : decode cX5_enter 48 = .ok (.getfield 9, 3) := by decide +kernel
theorem dX5_enter_51 : decode cX5_enter 51 = .ok (.iconst 1, 1) := by decide +kernel
theorem dX5_enter_52 : decode cX5_enter 52 = .ok (.iadd, 1) := by decide +kernel
theorem dX5_enter_53 : decode cX5_enter 53 = .ok (.putfield 9, 3) := by decide +kernel
theorem dX5_enter_56 : decode cX5_enter 56 = .ok (.aload_n 0, 1) := by decide +kernel
theorem dX5_enter_57 : decode cX5_enter 57 = .ok (.getfield 18, 3) := by decide +kernel
theorem dX5_enter_60 : decode cX5_enter 60 = .ok (.iload 4, 2) := by decide +kernel
theorem dX5_enter_62 : decode cX5_enter 62 = .ok (.aload_n 0, 1) := by decide +kernel
theorem dX5_enter_63 : decode cX5_enter 63 = .ok (.getfield 15, 3) := by decide +kernel
theorem dX5_enter_66 : decode cX5_enter 66 = .ok (.iastore, 1) := by decide +kernel
theorem dX5_enter_67 : decode cX5_enter 67 = .ok (.aload_n 0, 1) := by decide +kernel
theorem dX5_enter_68 : decode cX5_enter 68 = .ok (.getfield 22, 3) := by decide +kernel
theorem dX5_enter_71 : decode cX5_enter 71 = .ok (.iload 4, 2) := by decide +kernel
theorem dX5_enter_73 : decode cX5_enter 73 = .ok (.iload_n 1, 1) := by decide +kernel
theorem dX5_enter_74 : decode cX5_enter 74 = .ok (.iastore, 1) := by decide +kernel
theorem dX5_enter_75 : decode cX5_enter 75 = .ok (.aload_n 0, 1) := by decide +kernel
theorem dX5_enter_76 : decode cX5_enter 76 = .ok (.getfield 25, 3) := by decide +kernel
theorem dX5_enter_79 : decode cX5_enter 79 = .ok (.iload 4, 2) := by decide +kernel
theorem dX5_enter_81 : decode cX5_enter 81 = .ok (.iload_n 2, 1) := by decide +kernel
theorem dX5_enter_82 : decode cX5_enter 82 = .ok (.iastore, 1) := by decide +kernel
theorem dX5_enter_83 : decode cX5_enter 83 = .ok (.aload_n 0, 1) := by decide +kernel
theorem dX5_enter_84 : decode cX5_enter 84 = .ok (.getfield 28, 3) := by decide +kernel
theorem dX5_enter_87 : decode cX5_enter 87 = .ok (.iload 4, 2) := by decide +kernel
theorem dX5_enter_89 : decode cX5_enter 89 = .ok (.iload_n 3, 1) := by decide +kernel
theorem dX5_enter_90 : decode cX5_enter 90 = .ok (.iastore, 1) := by decide +kernel
theorem dX5_enter_91 : decode cX5_enter 91 = .ok (.aload_n 0, 1) := by decide +kernel
theorem dX5_enter_92 : decode cX5_enter 92 = .ok (.getfield 31, 3) := by decide +kernel
theorem dX5_enter_95 : decode cX5_enter 95 = .ok (.iload 4, 2) := by decide +kernel
theorem dX5_enter_97 : decode cX5_enter 97 = .ok (.iconst 0, 1) := by decide +kernel
theorem dX5_enter_98 : decode cX5_enter 98 = .ok (.iastore, 1) := by decide +kernel
theorem dX5_enter_99 : decode cX5_enter 99 = .ok (.aload_n 0, 1) := by decide +kernel
theorem dX5_enter_100 : decode cX5_enter 100 = .ok (.dup, 1) := by decide +kernel
theorem dX5_enter_101 : decode cX5_enter 101 = .ok (.getfield 15, 3) := by decide +kernel
theorem dX5_enter_104 : decode cX5_enter 104 = .ok (.iconst 1, 1) := by decide +kernel
theorem dX5_enter_105 : decode cX5_enter 105 = .ok (.iadd, 1) := by decide +kernel
theorem dX5_enter_106 : decode cX5_enter 106 = .ok (.putfield 15, 3) := by decide +kernel
theorem dX5_enter_109 : decode cX5_enter 109 = .ok (.aload_n 0, 1) := by decide +kernel
theorem dX5_enter_110 : decode cX5_enter 110 = .ok (.getfield 18, 3) := by decide +kernel
theorem dX5_enter_113 : decode cX5_enter 113 = .ok (.iload 4, 2) := by decide +kernel
theorem dX5_enter_115 : decode cX5_enter 115 = .ok (.iaload, 1) := by decide +kernel
theorem dX5_enter_116 : decode cX5_enter 116 = .ok (.ireturn, 1) := by decide +kernel
theorem dX5_remove_0 : decode cX5_remove 0 = .ok (.iload_n 1, 1) := by decide +kernel
theorem dX5_remove_1 : decode cX5_remove 1 = .ok (.ifCond .lt 11, 3) := by decide +kernel
theorem dX5_remove_4 : decode cX5_remove 4 = .ok (.iload_n 1, 1) := by decide +kernel
theorem dX5_remove_5 : decode cX5_remove 5 = .ok (.aload_n 0, 1) := by decide +kernel
theorem dX5_remove_6 : decode cX5_remove 6 = .ok (.getfield 9, 3) := by decide +kernel
theorem dX5_remove_9 : decode cX5_remove 9 = .ok (.if_icmp .lt 4, 3) := by decide +kernel
theorem dX5_remove_12 : decode cX5_remove 12 = .ok (.return_, 1) := by decide +kernel
theorem dX5_remove_13 : decode cX5_remove 13 = .ok (.aload_n 0, 1) := by decide +kernel
theorem dX5_remove_14 : decode cX5_remove 14 = .ok (.dup, 1) := by decide +kernel
theorem dX5_remove_15 : decode cX5_remove 15 = .ok (.getfield 9, 3) := by decide +kernel
theorem dX5_remove_18 : decode cX5_remove 18 = .ok (.iconst 1, 1) := by decide +kernel
theorem dX5_remove_19 : decode cX5_remove 19 = .ok (.isub, 1) := by decide +kernel
theorem dX5_remove_20 : decode cX5_remove 20 = .ok (.putfield 9, 3) := by decide +kernel
theorem dX5_remove_23 : decode cX5_remove 23 = .ok (.aload_n 0, 1) := by decide +kernel
theorem dX5_remove_24 : decode cX5_remove 24 = .ok (.iload_n 1, 1) := by decide +kernel
theorem dX5_remove_25 : decode cX5_remove 25 = .ok (.iconst 1, 1) := by decide +kernel
theorem dX5_remove_26 : decode cX5_remove 26 = .ok (.iadd, 1) := by decide +kernel
theorem dX5_remove_27 : decode cX5_remove 27 = .ok (.iload_n 1, 1) := by decide +kernel
theorem dX5_remove_28 : decode cX5_remove 28 = .ok (.aload_n 0, 1) := by decide +kernel
theorem dX5_remove_29 : decode cX5_remove 29 = .ok (.getfield 9, 3) := by decide +kernel
theorem dX5_remove_32 : decode cX5_remove 32 = .ok (.iload_n 1, 1) := by decide +kernel
theorem dX5_remove_33 : decode cX5_remove 33 = .ok (.isub, 1) := by decide +kernel
theorem dX5_remove_34 : decode cX5_remove 34 = .ok (.invokevirtual 44, 3) := by decide +kernel
theorem dX5_remove_37 : decode cX5_remove 37 = .ok (.return_, 1) := by decide +kernel
theorem dX5_moveRows_0 : decode cX5_moveRows 0 = .ok (.aload_n 0, 1) := by decide +kernel
theorem dX5_moveRows_1 : decode cX5_moveRows 1 = .ok (.getfield 18, 3) := by decide +kernel
theorem dX5_moveRows_4 : decode cX5_moveRows 4 = .ok (.iload_n 1, 1) := by decide +kernel
theorem dX5_moveRows_5 : decode cX5_moveRows 5 = .ok (.aload_n 0, 1) := by decide +kernel
theorem dX5_moveRows_6 : decode cX5_moveRows 6 = .ok (.getfield 18, 3) := by decide +kernel
theorem dX5_moveRows_9 : decode cX5_moveRows 9 = .ok (.iload_n 2, 1) := by decide +kernel
theorem dX5_moveRows_10 : decode cX5_moveRows 10 = .ok (.iload_n 3, 1) := by decide +kernel
theorem dX5_moveRows_11 : decode cX5_moveRows 11 = .ok (.invokestatic 34, 3) := by decide +kernel
theorem dX5_moveRows_14 : decode cX5_moveRows 14 = .ok (.aload_n 0, 1) := by decide +kernel
theorem dX5_moveRows_15 : decode cX5_moveRows 15 = .ok (.getfield 22, 3) := by decide +kernel
theorem dX5_moveRows_18 : decode cX5_moveRows 18 = .ok (.iload_n 1, 1) := by decide +kernel
theorem dX5_moveRows_19 : decode cX5_moveRows 19 = .ok (.aload_n 0, 1) := by decide +kernel
theorem dX5_moveRows_20 : decode cX5_moveRows 20 = .ok (.getfield 22, 3) := by decide +kernel
theorem dX5_moveRows_23 : decode cX5_moveRows 23 = .ok (.iload_n 2, 1) := by decide +kernel
theorem dX5_moveRows_24 : decode cX5_moveRows 24 = .ok (.iload_n 3, 1) := by decide +kernel
theorem dX5_moveRows_25 : decode cX5_moveRows 25 = .ok (.invokestatic 34, 3) := by decide +kernel
theorem dX5_moveRows_28 : decode cX5_moveRows 28 = .ok (.aload_n 0, 1) := by decide +kernel
theorem dX5_moveRows_29 : decode cX5_moveRows 29 = .ok (.getfield 25, 3) := by decide +kernel
theorem dX5_moveRows_32 : decode cX5_moveRows 32 = .ok (.iload_n 1, 1) := by decide +kernel
theorem dX5_moveRows_33 : decode cX5_moveRows 33 = .ok (.aload_n 0, 1) := by decide +kernel
theorem dX5_moveRows_34 : decode cX5_moveRows 34 = .ok (.getfield 25, 3) := by decide +kernel
theorem dX5_moveRows_37 : decode cX5_moveRows 37 = .ok (.iload_n 2, 1) := by decide +kernel
theorem dX5_moveRows_38 : decode cX5_moveRows 38 = .ok (.iload_n 3, 1) := by decide +kernel
theorem dX5_moveRows_39 : decode cX5_moveRows 39 = .ok (.invokestatic 34, 3) := by decide +kernel
theorem dX5_moveRows_42 : decode cX5_moveRows 42 = .ok (.aload_n 0, 1) := by decide +kernel
theorem dX5_moveRows_43 : decode cX5_moveRows 43 = .ok (.getfield 28, 3) := by decide +kernel
theorem dX5_moveRows_46 : decode cX5_moveRows 46 = .ok (.iload_n 1, 1) := by decide +kernel
theorem dX5_moveRows_47 : decode cX5_moveRows 47 = .ok (.aload_n 0, 1) := by decide +kernel
theorem dX5_moveRows_48 : decode cX5_moveRows 48 = .ok (.getfield 28, 3) := by decide +kernel
theorem dX5_moveRows_51 : decode cX5_moveRows 51 = .ok (.iload_n 2, 1) := by decide +kernel
theorem dX5_moveRows_52 : decode cX5_moveRows 52 = .ok (.iload_n 3, 1) := by decide +kernel
theorem dX5_moveRows_53 : decode cX5_moveRows 53 = .ok (.invokestatic 34, 3) := by decide +kernel
theorem dX5_moveRows_56 : decode cX5_moveRows 56 = .ok (.aload_n 0, 1) := by decide +kernel
theorem dX5_moveRows_57 : decode cX5_moveRows 57 = .ok (.getfield 31, 3) := by decide +kernel
theorem dX5_moveRows_60 : decode cX5_moveRows 60 = .ok (.iload_n 1, 1) := by decide +kernel
theorem dX5_moveRows_61 : decode cX5_moveRows 61 = .ok (.aload_n 0, 1) := by decide +kernel
theorem dX5_moveRows_62 : decode cX5_moveRows 62 = .ok (.getfield 31, 3) := by decide +kernel
theorem dX5_moveRows_65 : decode cX5_moveRows 65 = .ok (.iload_n 2, 1) := by decide +kernel
theorem dX5_moveRows_66 : decode cX5_moveRows 66 = .ok (.iload_n 3, 1) := by decide +kernel
theorem dX5_moveRows_67 : decode cX5_moveRows 67 = .ok (.invokestatic 34, 3) := by decide +kernel
theorem dX5_moveRows_70 : decode cX5_moveRows 70 = .ok (.return_, 1) := by decide +kernel
theorem dX5_growOlder_0 : decode cX5_growOlder 0 = .ok (.iconst 0, 1) := by decide +kernel
theorem dX5_growOlder_1 : decode cX5_growOlder 1 = .ok (.istore_n 1, 1) := by decide +kernel
theorem dX5_growOlder_2 : decode cX5_growOlder 2 = .ok (.aload_n 0, 1) := by decide +kernel
theorem dX5_growOlder_3 : decode cX5_growOlder 3 = .ok (.getfield 9, 3) := by decide +kernel
theorem dX5_growOlder_6 : decode cX5_growOlder 6 = .ok (.iconst 1, 1) := by decide +kernel
theorem dX5_growOlder_7 : decode cX5_growOlder 7 = .ok (.isub, 1) := by decide +kernel
theorem dX5_growOlder_8 : decode cX5_growOlder 8 = .ok (.istore_n 2, 1) := by decide +kernel
theorem dX5_growOlder_9 : decode cX5_growOlder 9 = .ok (.iload_n 2, 1) := by decide +kernel
theorem dX5_growOlder_10 : decode cX5_growOlder 10 = .ok (.ifCond .lt 37, 3) := by decide +kernel
theorem dX5_growOlder_13 : decode cX5_growOlder 13 = .ok (.aload_n 0, 1) := by decide +kernel
theorem dX5_growOlder_14 : decode cX5_growOlder 14 = .ok (.getfield 31, 3) := by decide +kernel
theorem dX5_growOlder_17 : decode cX5_growOlder 17 = .ok (.iload_n 2, 1) := by decide +kernel
theorem dX5_growOlder_18 : decode cX5_growOlder 18 = .ok (.dup2, 1) := by decide +kernel
theorem dX5_growOlder_19 : decode cX5_growOlder 19 = .ok (.iaload, 1) := by decide +kernel
theorem dX5_growOlder_20 : decode cX5_growOlder 20 = .ok (.iconst 1, 1) := by decide +kernel
theorem dX5_growOlder_21 : decode cX5_growOlder 21 = .ok (.iadd, 1) := by decide +kernel
theorem dX5_growOlder_22 : decode cX5_growOlder 22 = .ok (.iastore, 1) := by decide +kernel
theorem dX5_growOlder_23 : decode cX5_growOlder 23 = .ok (.aload_n 0, 1) := by decide +kernel
theorem dX5_growOlder_24 : decode cX5_growOlder 24 = .ok (.getfield 31, 3) := by decide +kernel
theorem dX5_growOlder_27 : decode cX5_growOlder 27 = .ok (.iload_n 2, 1) := by decide +kernel
theorem dX5_growOlder_28 : decode cX5_growOlder 28 = .ok (.iaload, 1) := by decide +kernel
theorem dX5_growOlder_29 : decode cX5_growOlder 29 = .ok (.iconst 3, 1) := by decide +kernel
theorem dX5_growOlder_30 : decode cX5_growOlder 30 = .ok (.if_icmp .lt 11, 3) := by decide +kernel
theorem dX5_growOlder_33 : decode cX5_growOlder 33 = .ok (.aload_n 0, 1) := by decide +kernel
theorem dX5_growOlder_34 : decode cX5_growOlder 34 = .ok (.iload_n 2, 1) := by decide +kernel
theorem dX5_growOlder_35 : decode cX5_growOlder 35 = .ok (.invokevirtual 48, 3) := by decide +kernel
theorem dX5_growOlder_38 : decode cX5_growOlder 38 = .ok (.iinc 1 1, 3) := by decide +kernel
theorem dX5_growOlder_41 : decode cX5_growOlder 41 = .ok (.iinc 2 (-1), 3) := by decide +kernel
theorem dX5_growOlder_44 : decode cX5_growOlder 44 = .ok (.goto (-35), 3) := by decide +kernel
theorem dX5_growOlder_47 : decode cX5_growOlder 47 = .ok (.iload_n 1, 1) := by decide +kernel
theorem dX5_growOlder_48 : decode cX5_growOlder 48 = .ok (.ireturn, 1) := by decide +kernel
theorem dX5_rowWithId_0 : decode cX5_rowWithId 0 = .ok (.iconst 0, 1) := by decide +kernel
theorem dX5_rowWithId_1 : decode cX5_rowWithId 1 = .ok (.istore_n 2, 1) := by decide +kernel
theorem dX5_rowWithId_2 : decode cX5_rowWithId 2 = .ok (.iload_n 2, 1) := by decide +kernel
theorem dX5_rowWithId_3 : decode cX5_rowWithId 3 = .ok (.aload_n 0, 1) := by decide +kernel
theorem dX5_rowWithId_4 : decode cX5_rowWithId 4 = .ok (.getfield 9, 3) := by decide +kernel
theorem dX5_rowWithId_7 : decode cX5_rowWithId 7 = .ok (.if_icmp .ge 21, 3) := by decide +kernel
theorem dX5_rowWithId_10 : decode cX5_rowWithId 10 = .ok (.aload_n 0, 1) := by decide +kernel
theorem dX5_rowWithId_11 : decode cX5_rowWithId 11 = .ok (.getfield 18, 3) := by decide +kernel
theorem dX5_rowWithId_14 : decode cX5_rowWithId 14 = .ok (.iload_n 2, 1) := by decide +kernel
theorem dX5_rowWithId_15 : decode cX5_rowWithId 15 = .ok (.iaload, 1) := by decide +kernel
theorem dX5_rowWithId_16 : decode cX5_rowWithId 16 = .ok (.iload_n 1, 1) := by decide +kernel
theorem dX5_rowWithId_17 : decode cX5_rowWithId 17 = .ok (.if_icmp .ne 5, 3) := by decide +kernel
theorem dX5_rowWithId_20 : decode cX5_rowWithId 20 = .ok (.iload_n 2, 1) := by decide +kernel
theorem dX5_rowWithId_21 : decode cX5_rowWithId 21 = .ok (.ireturn, 1) := by decide +kernel
theorem dX5_rowWithId_22 : decode cX5_rowWithId 22 = .ok (.iinc 2 1, 3) := by decide +kernel
theorem dX5_rowWithId_25 : decode cX5_rowWithId 25 = .ok (.goto (-23), 3) := by decide +kernel
theorem dX5_rowWithId_28 : decode cX5_rowWithId 28 = .ok (.iconst (-1), 1) := by decide +kernel
theorem dX5_rowWithId_29 : decode cX5_rowWithId 29 = .ok (.ireturn, 1) := by decide +kernel
theorem dX5_firstRowOf_0 : decode cX5_firstRowOf 0 = .ok (.iconst 0, 1) := by decide +kernel
theorem dX5_firstRowOf_1 : decode cX5_firstRowOf 1 = .ok (.istore_n 2, 1) := by decide +kernel
theorem dX5_firstRowOf_2 : decode cX5_firstRowOf 2 = .ok (.iload_n 2, 1) := by decide +kernel
theorem dX5_firstRowOf_3 : decode cX5_firstRowOf 3 = .ok (.aload_n 0, 1) := by decide +kernel
theorem dX5_firstRowOf_4 : decode cX5_firstRowOf 4 = .ok (.getfield 9, 3) := by decide +kernel
theorem dX5_firstRowOf_7 : decode cX5_firstRowOf 7 = .ok (.if_icmp .ge 21, 3) := by decide +kernel
theorem dX5_firstRowOf_10 : decode cX5_firstRowOf 10 = .ok (.aload_n 0, 1) := by decide +kernel
theorem dX5_firstRowOf_11 : decode cX5_firstRowOf 11 = .ok (.getfield 22, 3) := by decide +kernel
theorem dX5_firstRowOf_14 : decode cX5_firstRowOf 14 = .ok (.iload_n 2, 1) := by decide +kernel
theorem dX5_firstRowOf_15 : decode cX5_firstRowOf 15 = .ok (.iaload, 1) := by decide +kernel
theorem dX5_firstRowOf_16 : decode cX5_firstRowOf 16 = .ok (.iload_n 1, 1) := by decide +kernel
theorem dX5_firstRowOf_17 : decode cX5_firstRowOf 17 = .ok (.if_icmp .ne 5, 3) := by decide +kernel
theorem dX5_firstRowOf_20 : decode cX5_firstRowOf 20 = .ok (.iload_n 2, 1) := by decide +kernel
theorem dX5_firstRowOf_21 : decode cX5_firstRowOf 21 = .ok (.ireturn, 1) := by decide +kernel
theorem dX5_firstRowOf_22 : decode cX5_firstRowOf 22 = .ok (.iinc 2 1, 3) := by decide +kernel
theorem dX5_firstRowOf_25 : decode cX5_firstRowOf 25 = .ok (.goto (-23), 3) := by decide +kernel
theorem dX5_firstRowOf_28 : decode cX5_firstRowOf 28 = .ok (.iconst (-1), 1) := by decide +kernel
theorem dX5_firstRowOf_29 : decode cX5_firstRowOf 29 = .ok (.ireturn, 1) := by decide +kernel
theorem dX5_idOf_0 : decode cX5_idOf 0 = .ok (.aload_n 0, 1) := by decide +kernel
theorem dX5_idOf_1 : decode cX5_idOf 1 = .ok (.iload_n 1, 1) := by decide +kernel
theorem dX5_idOf_2 : decode cX5_idOf 2 = .ok (.invokevirtual 52, 3) := by decide +kernel
theorem dX5_idOf_5 : decode cX5_idOf 5 = .ok (.istore_n 2, 1) := by decide +kernel
theorem dX5_idOf_6 : decode cX5_idOf 6 = .ok (.iload_n 2, 1) := by decide +kernel
theorem dX5_idOf_7 : decode cX5_idOf 7 = .ok (.iconst (-1), 1) := by decide +kernel
theorem dX5_idOf_8 : decode cX5_idOf 8 = .ok (.if_icmp .ne 7, 3) := by decide +kernel
theorem dX5_idOf_11 : decode cX5_idOf 11 = .ok (.iconst (-1), 1) := by decide +kernel
theorem dX5_idOf_12 : decode cX5_idOf 12 = .ok (.goto 9, 3) := by decide +kernel
theorem dX5_idOf_15 : decode cX5_idOf 15 = .ok (.aload_n 0, 1) := by decide +kernel
theorem dX5_idOf_16 : decode cX5_idOf 16 = .ok (.getfield 18, 3) := by decide +kernel
theorem dX5_idOf_19 : decode cX5_idOf 19 = .ok (.iload_n 2, 1) := by decide +kernel
theorem dX5_idOf_20 : decode cX5_idOf 20 = .ok (.iaload, 1) := by decide +kernel
theorem dX5_idOf_21 : decode cX5_idOf 21 = .ok (.ireturn, 1) := by decide +kernel
theorem dX5_countOf_0 : decode cX5_countOf 0 = .ok (.iconst 0, 1) := by decide +kernel
theorem dX5_countOf_1 : decode cX5_countOf 1 = .ok (.istore_n 2, 1) := by decide +kernel
theorem dX5_countOf_2 : decode cX5_countOf 2 = .ok (.iconst 0, 1) := by decide +kernel
theorem dX5_countOf_3 : decode cX5_countOf 3 = .ok (.istore_n 3, 1) := by decide +kernel
theorem dX5_countOf_4 : decode cX5_countOf 4 = .ok (.iload_n 3, 1) := by decide +kernel
theorem dX5_countOf_5 : decode cX5_countOf 5 = .ok (.aload_n 0, 1) := by decide +kernel
theorem dX5_countOf_6 : decode cX5_countOf 6 = .ok (.getfield 9, 3) := by decide +kernel
theorem dX5_countOf_9 : decode cX5_countOf 9 = .ok (.if_icmp .ge 22, 3) := by decide +kernel
theorem dX5_countOf_12 : decode cX5_countOf 12 = .ok (.aload_n 0, 1) := by decide +kernel
theorem dX5_countOf_13 : decode cX5_countOf 13 = .ok (.getfield 22, 3) := by decide +kernel
theorem dX5_countOf_16 : decode cX5_countOf 16 = .ok (.iload_n 3, 1) := by decide +kernel
theorem dX5_countOf_17 : decode cX5_countOf 17 = .ok (.iaload, 1) := by decide +kernel
theorem dX5_countOf_18 : decode cX5_countOf 18 = .ok (.iload_n 1, 1) := by decide +kernel
theorem dX5_countOf_19 : decode cX5_countOf 19 = .ok (.if_icmp .ne 6, 3) := by decide +kernel
theorem dX5_countOf_22 : decode cX5_countOf 22 = .ok (.iinc 2 1, 3) := by decide +kernel
theorem dX5_countOf_25 : decode cX5_countOf 25 = .ok (.iinc 3 1, 3) := by decide +kernel
theorem dX5_countOf_28 : decode cX5_countOf 28 = .ok (.goto (-24), 3) := by decide +kernel
theorem dX5_countOf_31 : decode cX5_countOf 31 = .ok (.iload_n 2, 1) := by decide +kernel
theorem dX5_countOf_32 : decode cX5_countOf 32 = .ok (.ireturn, 1) := by decide +kernel
theorem dX5_priceSumOf_0 : decode cX5_priceSumOf 0 = .ok (.iconst 0, 1) := by decide +kernel
theorem dX5_priceSumOf_1 : decode cX5_priceSumOf 1 = .ok (.istore_n 2, 1) := by decide +kernel
theorem dX5_priceSumOf_2 : decode cX5_priceSumOf 2 = .ok (.iconst 0, 1) := by decide +kernel
theorem dX5_priceSumOf_3 : decode cX5_priceSumOf 3 = .ok (.istore_n 3, 1) := by decide +kernel
theorem dX5_priceSumOf_4 : decode cX5_priceSumOf 4 = .ok (.iload_n 3, 1) := by decide +kernel
theorem dX5_priceSumOf_5 : decode cX5_priceSumOf 5 = .ok (.aload_n 0, 1) := by decide +kernel
theorem dX5_priceSumOf_6 : decode cX5_priceSumOf 6 = .ok (.getfield 9, 3) := by decide +kernel
theorem dX5_priceSumOf_9 : decode cX5_priceSumOf 9 = .ok (.if_icmp .ge 28, 3) := by decide +kernel
theorem dX5_priceSumOf_12 : decode cX5_priceSumOf 12 = .ok (.aload_n 0, 1) := by decide +kernel
theorem dX5_priceSumOf_13 : decode cX5_priceSumOf 13 = .ok (.getfield 22, 3) := by decide +kernel
theorem dX5_priceSumOf_16 : decode cX5_priceSumOf 16 = .ok (.iload_n 3, 1) := by decide +kernel
theorem dX5_priceSumOf_17 : decode cX5_priceSumOf 17 = .ok (.iaload, 1) := by decide +kernel
theorem dX5_priceSumOf_18 : decode cX5_priceSumOf 18 = .ok (.iload_n 1, 1) := by decide +kernel
theorem dX5_priceSumOf_19 : decode cX5_priceSumOf 19 = .ok (.if_icmp .ne 12, 3) := by decide +kernel
theorem dX5_priceSumOf_22 : decode cX5_priceSumOf 22 = .ok (.iload_n 2, 1) := by decide +kernel
theorem dX5_priceSumOf_23 : decode cX5_priceSumOf 23 = .ok (.aload_n 0, 1) := by decide +kernel
theorem dX5_priceSumOf_24 : decode cX5_priceSumOf 24 = .ok (.getfield 28, 3) := by decide +kernel
theorem dX5_priceSumOf_27 : decode cX5_priceSumOf 27 = .ok (.iload_n 3, 1) := by decide +kernel
theorem dX5_priceSumOf_28 : decode cX5_priceSumOf 28 = .ok (.iaload, 1) := by decide +kernel
theorem dX5_priceSumOf_29 : decode cX5_priceSumOf 29 = .ok (.iadd, 1) := by decide +kernel
theorem dX5_priceSumOf_30 : decode cX5_priceSumOf 30 = .ok (.istore_n 2, 1) := by decide +kernel
theorem dX5_priceSumOf_31 : decode cX5_priceSumOf 31 = .ok (.iinc 3 1, 3) := by decide +kernel
theorem dX5_priceSumOf_34 : decode cX5_priceSumOf 34 = .ok (.goto (-30), 3) := by decide +kernel
theorem dX5_priceSumOf_37 : decode cX5_priceSumOf 37 = .ok (.iload_n 2, 1) := by decide +kernel
theorem dX5_priceSumOf_38 : decode cX5_priceSumOf 38 = .ok (.ireturn, 1) := by decide +kernel
theorem dX6_init_0 : decode cX6_init 0 = .ok (.aload_n 0, 1) := by decide +kernel
theorem dX6_init_1 : decode cX6_init 1 = .ok (.invokespecial 3, 3) := by decide +kernel
theorem dX6_init_4 : decode cX6_init 4 = .ok (.aload_n 0, 1) := by decide +kernel
theorem dX6_init_5 : decode cX6_init 5 = .ok (.bipush 60, 2) := by decide +kernel
theorem dX6_init_7 : decode cX6_init 7 = .ok (.newarray .char, 2) := by decide +kernel
theorem dX6_init_9 : decode cX6_init 9 = .ok (.putfield 11, 3) := by decide +kernel
theorem dX6_init_12 : decode cX6_init 12 = .ok (.aload_n 0, 1) := by decide +kernel
theorem dX6_init_13 : decode cX6_init 13 = .ok (.iconst 0, 1) := by decide +kernel
theorem dX6_init_14 : decode cX6_init 14 = .ok (.putfield 15, 3) := by decide +kernel
theorem dX6_init_17 : decode cX6_init 17 = .ok (.aload_n 0, 1) := by decide +kernel
theorem dX6_init_18 : decode cX6_init 18 = .ok (.iconst 0, 1) := by decide +kernel
theorem dX6_init_19 : decode cX6_init 19 = .ok (.putfield 19, 3) := by decide +kernel
theorem dX6_init_22 : decode cX6_init 22 = .ok (.aload_n 0, 1) := by decide +kernel
theorem dX6_init_23 : decode cX6_init 23 = .ok (.iconst 0, 1) := by decide +kernel
theorem dX6_init_24 : decode cX6_init 24 = .ok (.putfield 22, 3) := by decide +kernel
theorem dX6_init_27 : decode cX6_init 27 = .ok (.aload_n 0, 1) := by decide +kernel
theorem dX6_init_28 : decode cX6_init 28 = .ok (.iconst 0, 1) := by decide +kernel
theorem dX6_init_29 : decode cX6_init 29 = .ok (.putfield 25, 3) := by decide +kernel
theorem dX6_init_32 : decode cX6_init 32 = .ok (.aload_n 0, 1) := by decide +kernel
theorem dX6_init_33 : decode cX6_init 33 = .ok (.bipush 30, 2) := by decide +kernel
theorem dX6_init_35 : decode cX6_init 35 = .ok (.newarray .char, 2) := by decide +kernel
theorem dX6_init_37 : decode cX6_init 37 = .ok (.putfield 28, 3) := by decide +kernel
theorem dX6_init_40 : decode cX6_init 40 = .ok (.aload_n 0, 1) := by decide +kernel
theorem dX6_init_41 : decode cX6_init 41 = .ok (.bipush 30, 2) := by decide +kernel
theorem dX6_init_43 : decode cX6_init 43 = .ok (.iconst 3, 1) := by decide +kernel
theorem dX6_init_44 : decode cX6_init 44 = .ok (.multianewarray 31 2, 4) := by decide +kernel
theorem dX6_init_48 : decode cX6_init 48 = .ok (.putfield 33, 3) := by decide +kernel
theorem dX6_init_51 : decode cX6_init 51 = .ok (.return_, 1) := by decide +kernel
theorem dX6_readCommands_0 : decode cX6_readCommands 0 = .ok (.aload_n 0, 1) := by decide +kernel
theorem dX6_readCommands_1 : decode cX6_readCommands 1 = .ok (.iconst 0, 1) := by decide +kernel
theorem dX6_readCommands_2 : decode cX6_readCommands 2 = .ok (.putfield 19, 3) := by decide +kernel
theorem dX6_readCommands_5 : decode cX6_readCommands 5 = .ok (.aload_n 0, 1) := by decide +kernel
theorem dX6_readCommands_6 : decode cX6_readCommands 6 = .ok (.iconst 0, 1) := by decide +kernel
theorem dX6_readCommands_7 : decode cX6_readCommands 7 = .ok (.putfield 22, 3) := by decide +kernel
theorem dX6_readCommands_10 : decode cX6_readCommands 10 = .ok (.aload_n 0, 1) := by decide +kernel
theorem dX6_readCommands_11 : decode cX6_readCommands 11 = .ok (.getfield 22, 3) := by decide +kernel
theorem dX6_readCommands_14 : decode cX6_readCommands 14 = .ok (.bipush 30, 2) := by decide +kernel
theorem dX6_readCommands_16 : decode cX6_readCommands 16 = .ok (.if_icmp .ge 69, 3) := by decide +kernel
theorem dX6_readCommands_19 : decode cX6_readCommands 19 = .ok (.aload_n 0, 1) := by decide +kernel
theorem dX6_readCommands_20 : decode cX6_readCommands 20 = .ok (.aload_n 0, 1) := by decide +kernel
theorem dX6_readCommands_21 : decode cX6_readCommands 21 = .ok (.getfield 22, 3) := by decide +kernel
theorem dX6_readCommands_24 : decode cX6_readCommands 24 = .ok (.invokevirtual 36, 3) := by decide +kernel
theorem dX6_readCommands_27 : decode cX6_readCommands 27 = .ok (.ifCond .ne 8, 3) := by decide +kernel
theorem dX6_readCommands_30 : decode cX6_readCommands 30 = .ok (.aload_n 0, 1) := by decide +kernel
theorem dX6_readCommands_31 : decode cX6_readCommands 31 = .ok (.getfield 19, 3) := by decide +kernel
theorem dX6_readCommands_34 : decode cX6_readCommands 34 = .ok (.ireturn, 1) := by decide +kernel
theorem dX6_readCommands_35 : decode cX6_readCommands 35 = .ok (.aload_n 0, 1) := by decide +kernel
theorem dX6_readCommands_36 : decode cX6_readCommands 36 = .ok (.getfield 19, 3) := by decide +kernel
theorem dX6_readCommands_39 : decode cX6_readCommands 39 = .ok (.aload_n 0, 1) := by decide +kernel
theorem dX6_readCommands_40 : decode cX6_readCommands 40 = .ok (.getfield 15, 3) := by decide +kernel
theorem dX6_readCommands_43 : decode cX6_readCommands 43 = .ok (.if_icmp .ne 15, 3) := by decide +kernel
theorem dX6_readCommands_46 : decode cX6_readCommands 46 = .ok (.aload_n 0, 1) := by decide +kernel
theorem dX6_readCommands_47 : decode cX6_readCommands 47 = .ok (.dup, 1) := by decide +kernel
theorem dX6_readCommands_48 : decode cX6_readCommands 48 = .ok (.getfield 22, 3) := by decide +kernel
theorem dX6_readCommands_51 : decode cX6_readCommands 51 = .ok (.iconst 1, 1) := by decide +kernel
theorem dX6_readCommands_52 : decode cX6_readCommands 52 = .ok (.iadd, 1) := by decide +kernel
theorem dX6_readCommands_53 : decode cX6_readCommands 53 = .ok (.putfield 22, 3) := by decide +kernel
theorem dX6_readCommands_56 : decode cX6_readCommands 56 = .ok (.iconst (-1), 1) := by decide +kernel
theorem dX6_readCommands_57 : decode cX6_readCommands 57 = .ok (.ireturn, 1) := by decide +kernel
theorem dX6_readCommands_58 : decode cX6_readCommands 58 = .ok (.aload_n 0, 1) := by decide +kernel
theorem dX6_readCommands_59 : decode cX6_readCommands 59 = .ok (.bipush 59, 2) := by decide +kernel
theorem dX6_readCommands_61 : decode cX6_readCommands 61 = .ok (.invokevirtual 40, 3) := by decide +kernel
theorem dX6_readCommands_64 : decode cX6_readCommands 64 = .ok (.ifCond .ne 8, 3) := by decide +kernel
theorem dX6_readCommands_67 : decode cX6_readCommands 67 = .ok (.aload_n 0, 1) := by decide +kernel
theorem dX6_readCommands_68 : decode cX6_readCommands 68 = .ok (.getfield 19, 3) := by decide +kernel
theorem dX6_readCommands_71 : decode cX6_readCommands 71 = .ok (.ireturn, 1) := by decide +kernel
theorem dX6_readCommands_72 : decode cX6_readCommands 72 = .ok (.aload_n 0, 1) := by decide +kernel
theorem dX6_readCommands_73 : decode cX6_readCommands 73 = .ok (.dup, 1) := by decide +kernel
theorem dX6_readCommands_74 : decode cX6_readCommands 74 = .ok (.getfield 22, 3) := by decide +kernel
theorem dX6_readCommands_77 : decode cX6_readCommands 77 = .ok (.iconst 1, 1) := by decide +kernel
theorem dX6_readCommands_78 : decode cX6_readCommands 78 = .ok (.iadd, 1) := by decide +kernel
theorem dX6_readCommands_79 : decode cX6_readCommands 79 = .ok (.putfield 22, 3) := by decide +kernel
theorem dX6_readCommands_82 : decode cX6_readCommands 82 = .ok (.goto (-72), 3) := by decide +kernel
theorem dX6_readCommands_85 : decode cX6_readCommands 85 = .ok (.aload_n 0, 1) := by decide +kernel
theorem dX6_readCommands_86 : decode cX6_readCommands 86 = .ok (.getfield 19, 3) := by decide +kernel
theorem dX6_readCommands_89 : decode cX6_readCommands 89 = .ok (.ireturn, 1) := by decide +kernel
theorem dX6_readCommand_0 : decode cX6_readCommand 0 = .ok (.aload_n 0, 1) := by decide +kernel
theorem dX6_readCommand_1 : decode cX6_readCommand 1 = .ok (.getfield 19, 3) := by decide +kernel
theorem dX6_readCommand_4 : decode cX6_readCommand 4 = .ok (.aload_n 0, 1) := by decide +kernel
theorem dX6_readCommand_5 : decode cX6_readCommand 5 = .ok (.getfield 15, 3) := by decide +kernel
theorem dX6_readCommand_8 : decode cX6_readCommand 8 = .ok (.if_icmp .lt 5, 3) := by decide +kernel
theorem dX6_readCommand_11 : decode cX6_readCommand 11 = .ok (.iconst 0, 1) := by decide +kernel
theorem dX6_readCommand_12 : decode cX6_readCommand 12 = .ok (.ireturn, 1) := by decide +kernel
theorem dX6_readCommand_13 : decode cX6_readCommand 13 = .ok (.aload_n 0, 1) := by decide +kernel
theorem dX6_readCommand_14 : decode cX6_readCommand 14 = .ok (.getfield 11, 3) := by decide +kernel
theorem dX6_readCommand_17 : decode cX6_readCommand 17 = .ok (.aload_n 0, 1) := by decide +kernel
theorem dX6_readCommand_18 : decode cX6_readCommand 18 = .ok (.getfield 19, 3) := by decide +kernel
theorem dX6_readCommand_21 : decode cX6_readCommand 21 = .ok (.caload, 1) := by decide +kernel
theorem dX6_readCommand_22 : decode cX6_readCommand 22 = .ok (.istore_n 2, 1) := by decide +kernel
theorem dX6_readCommand_23 : decode cX6_readCommand 23 = .ok (.iload_n 2, 1) := by decide +kernel
theorem dX6_readCommand_24 : decode cX6_readCommand 24 = .ok (.invokestatic 44, 3) := by decide +kernel
theorem dX6_readCommand_27 : decode cX6_readCommand 27 = .ok (.astore_n 3, 1) := by decide +kernel
theorem dX6_readCommand_28 : decode cX6_readCommand 28 = .ok (.aload_n 3, 1) := by decide +kernel
theorem dX6_readCommand_29 : decode cX6_readCommand 29 = .ok (.invokevirtual 48, 3) := by decide +kernel
theorem dX6_readCommand_32 : decode cX6_readCommand 32 = .ok (.ifCond .eq 5, 3) := by decide +kernel
theorem dX6_readCommand_35 : decode cX6_readCommand 35 = .ok (.iconst 0, 1) := by decide +kernel
theorem dX6_readCommand_36 : decode cX6_readCommand 36 = .ok (.ireturn, 1) := by decide +kernel
theorem dX6_readCommand_37 : decode cX6_readCommand 37 = .ok (.aload_n 0, 1) := by decide +kernel
theorem dX6_readCommand_38 : decode cX6_readCommand 38 = .ok (.dup, 1) := by decide +kernel
theorem dX6_readCommand_39 : decode cX6_readCommand 39 = .ok (.getfield 19, 3) := by decide +kernel
theorem dX6_readCommand_42 : decode cX6_readCommand 42 = .ok (.iconst 1, 1) := by decide +kernel
theorem dX6_readCommand_43 : decode cX6_readCommand 43 = .ok (.iadd, 1) := by decide +kernel
theorem dX6_readCommand_44 : decode cX6_readCommand 44 = .ok (.putfield 19, 3) := by decide +kernel
theorem dX6_readCommand_47 : decode cX6_readCommand 47 = .ok (.aload_n 0, 1) := by decide +kernel
theorem dX6_readCommand_48 : decode cX6_readCommand 48 = .ok (.getfield 28, 3) := by decide +kernel
theorem dX6_readCommand_51 : decode cX6_readCommand 51 = .ok (.iload_n 1, 1) := by decide +kernel
theorem dX6_readCommand_52 : decode cX6_readCommand 52 = .ok (.iload_n 2, 1) := by decide +kernel
theorem dX6_readCommand_53 : decode cX6_readCommand 53 = .ok (.castore, 1) := by decide +kernel
theorem dX6_readCommand_54 : decode cX6_readCommand 54 = .ok (.aload_n 0, 1) := by decide +kernel
theorem dX6_readCommand_55 : decode cX6_readCommand 55 = .ok (.iconst 0, 1) := by decide +kernel
theorem dX6_readCommand_56 : decode cX6_readCommand 56 = .ok (.putfield 25, 3) := by decide +kernel
theorem dX6_readCommand_59 : decode cX6_readCommand 59 = .ok (.iconst 1, 1) := by decide +kernel
theorem dX6_readCommand_60 : decode cX6_readCommand 60 = .ok (.istore 4, 2) := by decide +kernel
theorem dX6_readCommand_62 : decode cX6_readCommand 62 = .ok (.iload 4, 2) := by decide +kernel
theorem dX6_readCommand_64 : decode cX6_readCommand 64 = .ok (.aload_n 3, 1) := by decide +kernel
theorem dX6_readCommand_65 : decode cX6_readCommand 65 = .ok (.invokevirtual 54, 3) := by decide +kernel
theorem dX6_readCommand_68 : decode cX6_readCommand 68 = .ok (.if_icmp .ge 25, 3) := by decide +kernel
theorem dX6_readCommand_71 : decode cX6_readCommand 71 = .ok (.aload_n 0, 1) := by decide +kernel
theorem dX6_readCommand_72 : decode cX6_readCommand 72 = .ok (.iload_n 1, 1) := by decide +kernel
theorem dX6_readCommand_73 : decode cX6_readCommand 73 = .ok (.aload_n 3, 1) := by decide +kernel
theorem dX6_readCommand_74 : decode cX6_readCommand 74 = .ok (.iload 4, 2) := by decide +kernel
theorem dX6_readCommand_76 : decode cX6_readCommand 76 = .ok (.invokevirtual 57, 3) := by decide +kernel
theorem dX6_readCommand_79 : decode cX6_readCommand 79 = .ok (.invokevirtual 61, 3) := by decide +kernel
theorem dX6_readCommand_82 : decode cX6_readCommand 82 = .ok (.ifCond .ne 5, 3) := by decide +kernel
theorem dX6_readCommand_85 : decode cX6_readCommand 85 = .ok (.iconst 0, 1) := by decide +kernel
theorem dX6_readCommand_86 : decode cX6_readCommand 86 = .ok (.ireturn, 1) := by decide +kernel
theorem dX6_readCommand_87 : decode cX6_readCommand 87 = .ok (.iinc 4 1, 3) := by decide +kernel
theorem dX6_readCommand_90 : decode cX6_readCommand 90 = .ok (.goto (-28), 3) := by decide +kernel
theorem dX6_readCommand_93 : decode cX6_readCommand 93 = .ok (.iconst 1, 1) := by decide +kernel
theorem dX6_readCommand_94 : decode cX6_readCommand 94 = .ok (.ireturn, 1) := by decide +kernel
theorem dX6_formOf_0 : decode cX6_formOf 0 = .ok (.iload_n 0, 1) := by decide +kernel
theorem dX6_formOf_1 : decode cX6_formOf 1 = .ok (.tableswitch 142 97 121 #[118, 124, 121, 142, 142, 139, 142, 142, 142, 142, 142, 142, 142, 142, 127, 142, 142, 142, 115, 136, 142, 142, 142, 130, 133], 115) := by decide +kernel
theorem dX6_formOf_116 : decode cX6_formOf 116 = .ok (.ldc 65, 2) := by decide +kernel
theorem dX6_formOf_118 : decode cX6_formOf 118 = .ok (.areturn, 1) := by decide +kernel
theorem dX6_formOf_119 : decode cX6_formOf 119 = .ok (.ldc 67, 2) := by decide +kernel
theorem dX6_formOf_121 : decode cX6_formOf 121 = .ok (.areturn, 1) := by decide +kernel
theorem dX6_formOf_122 : decode cX6_formOf 122 = .ok (.ldc 69, 2) := by decide +kernel
theorem dX6_formOf_124 : decode cX6_formOf 124 = .ok (.areturn, 1) := by decide +kernel
theorem dX6_formOf_125 : decode cX6_formOf 125 = .ok (.ldc 71, 2) := by decide +kernel
theorem dX6_formOf_127 : decode cX6_formOf 127 = .ok (.areturn, 1) := by decide +kernel
theorem dX6_formOf_128 : decode cX6_formOf 128 = .ok (.ldc 73, 2) := by decide +kernel
theorem dX6_formOf_130 : decode cX6_formOf 130 = .ok (.areturn, 1) := by decide +kernel
theorem dX6_formOf_131 : decode cX6_formOf 131 = .ok (.ldc 75, 2) := by decide +kernel
theorem dX6_formOf_133 : decode cX6_formOf 133 = .ok (.areturn, 1) := by decide +kernel
theorem dX6_formOf_134 : decode cX6_formOf 134 = .ok (.ldc 77, 2) := by decide +kernel
theorem dX6_formOf_136 : decode cX6_formOf 136 = .ok (.areturn, 1) := by decide +kernel
theorem dX6_formOf_137 : decode cX6_formOf 137 = .ok (.ldc 79, 2) := by decide +kernel
theorem dX6_formOf_139 : decode cX6_formOf 139 = .ok (.areturn, 1) := by decide +kernel
theorem dX6_formOf_140 : decode cX6_formOf 140 = .ok (.ldc 81, 2) := by decide +kernel
theorem dX6_formOf_142 : decode cX6_formOf 142 = .ok (.areturn, 1) := by decide +kernel
theorem dX6_formOf_143 : decode cX6_formOf 143 = .ok (.ldc 83, 2) := by decide +kernel
theorem dX6_formOf_145 : decode cX6_formOf 145 = .ok (.areturn, 1) := by decide +kernel
theorem dX6_readPart_0 : decode cX6_readPart 0 = .ok (.iload_n 2, 1) := by decide +kernel
theorem dX6_readPart_1 : decode cX6_readPart 1 = .ok (.bipush 78, 2) := by decide +kernel
theorem dX6_readPart_3 : decode cX6_readPart 3 = .ok (.if_icmp .eq 15, 3) := by decide +kernel
theorem dX6_readPart_6 : decode cX6_readPart 6 = .ok (.iload_n 2, 1) := by decide +kernel
theorem dX6_readPart_7 : decode cX6_readPart 7 = .ok (.bipush 68, 2) := by decide +kernel
theorem dX6_readPart_9 : decode cX6_readPart 9 = .ok (.if_icmp .eq 9, 3) := by decide +kernel
theorem dX6_readPart_12 : decode cX6_readPart 12 = .ok (.aload_n 0, 1) := by decide +kernel
theorem dX6_readPart_13 : decode cX6_readPart 13 = .ok (.iload_n 2, 1) := by decide +kernel
theorem dX6_readPart_14 : decode cX6_readPart 14 = .ok (.invokevirtual 40, 3) := by decide +kernel
theorem dX6_readPart_17 : decode cX6_readPart 17 = .ok (.ireturn, 1) := by decide +kernel
theorem dX6_readPart_18 : decode cX6_readPart 18 = .ok (.aload_n 0, 1) := by decide +kernel
theorem dX6_readPart_19 : decode cX6_readPart 19 = .ok (.invokevirtual 85, 3) := by decide +kernel
theorem dX6_readPart_22 : decode cX6_readPart 22 = .ok (.ifCond .ne 5, 3) := by decide +kernel
theorem dX6_readPart_25 : decode cX6_readPart 25 = .ok (.iconst 0, 1) := by decide +kernel
theorem dX6_readPart_26 : decode cX6_readPart 26 = .ok (.ireturn, 1) := by decide +kernel
theorem dX6_readPart_27 : decode cX6_readPart 27 = .ok (.aload_n 0, 1) := by decide +kernel
theorem dX6_readPart_28 : decode cX6_readPart 28 = .ok (.invokevirtual 88, 3) := by decide +kernel
theorem dX6_readPart_31 : decode cX6_readPart 31 = .ok (.istore_n 3, 1) := by decide +kernel
theorem dX6_readPart_32 : decode cX6_readPart 32 = .ok (.iload_n 2, 1) := by decide +kernel
theorem dX6_readPart_33 : decode cX6_readPart 33 = .ok (.bipush 78, 2) := by decide +kernel
theorem dX6_readPart_35 : decode cX6_readPart 35 = .ok (.if_icmp .ne 20, 3) := by decide +kernel
theorem dX6_readPart_38 : decode cX6_readPart 38 = .ok (.aload_n 0, 1) := by decide +kernel
theorem dX6_readPart_39 : decode cX6_readPart 39 = .ok (.invokevirtual 85, 3) := by decide +kernel
theorem dX6_readPart_42 : decode cX6_readPart 42 = .ok (.ifCond .eq 13, 3) := by decide +kernel
theorem dX6_readPart_45 : decode cX6_readPart 45 = .ok (.iload_n 3, 1) := by decide +kernel
theorem dX6_readPart_46 : decode cX6_readPart 46 = .ok (.bipush 10, 2) := by decide +kernel
theorem dX6_readPart_48 : decode cX6_readPart 48 = .ok (.imul, 1) := by decide +kernel
theorem dX6_readPart_49 : decode cX6_readPart 49 = .ok (.aload_n 0, 1) := by decide +kernel
theorem dX6_readPart_50 : decode cX6_readPart 50 = .ok (.invokevirtual 88, 3) := by decide +kernel
theorem dX6_readPart_53 : decode cX6_readPart 53 = .ok (.iadd, 1) := by decide +kernel
theorem dX6_readPart_54 : decode cX6_readPart 54 = .ok (.istore_n 3, 1) := by decide +kernel
theorem dX6_readPart_55 : decode cX6_readPart 55 = .ok (.aload_n 0, 1) := by decide +kernel
theorem dX6_readPart_56 : decode cX6_readPart 56 = .ok (.getfield 33, 3) := by decide +kernel
theorem dX6_readPart_59 : decode cX6_readPart 59 = .ok (.iload_n 1, 1) := by decide +kernel
theorem dX6_readPart_60 : decode cX6_readPart 60 = .ok (.aaload, 1) := by decide +kernel
theorem dX6_readPart_61 : decode cX6_readPart 61 = .ok (.aload_n 0, 1) := by decide +kernel
theorem dX6_readPart_62 : decode cX6_readPart 62 = .ok (.getfield 25, 3) := by decide +kernel
theorem dX6_readPart_65 : decode cX6_readPart 65 = .ok (.iload_n 3, 1) := by decide +kernel
theorem dX6_readPart_66 : decode cX6_readPart 66 = .ok (.iastore, 1) := by decide +kernel
theorem dX6_readPart_67 : decode cX6_readPart 67 = .ok (.aload_n 0, 1) := by decide +kernel
theorem dX6_readPart_68 : decode cX6_readPart 68 = .ok (.dup, 1) := by decide +kernel
theorem dX6_readPart_69 : decode cX6_readPart 69 = .ok (.getfield 25, 3) := by decide +kernel
theorem dX6_readPart_72 : decode cX6_readPart 72 = .ok (.iconst 1, 1) := by decide +kernel
theorem dX6_readPart_73 : decode cX6_readPart 73 = .ok (.iadd, 1) := by decide +kernel
theorem dX6_readPart_74 : decode cX6_readPart 74 = .ok (.putfield 25, 3) := by decide +kernel
theorem dX6_readPart_77 : decode cX6_readPart 77 = .ok (.iconst 1, 1) := by decide +kernel
theorem dX6_readPart_78 : decode cX6_readPart 78 = .ok (.ireturn, 1) := by decide +kernel
theorem dX6_readSign_0 : decode cX6_readSign 0 = .ok (.aload_n 0, 1) := by decide +kernel
theorem dX6_readSign_1 : decode cX6_readSign 1 = .ok (.getfield 19, 3) := by decide +kernel
theorem dX6_readSign_4 : decode cX6_readSign 4 = .ok (.aload_n 0, 1) := by decide +kernel
theorem dX6_readSign_5 : decode cX6_readSign 5 = .ok (.getfield 15, 3) := by decide +kernel
theorem dX6_readSign_8 : decode cX6_readSign 8 = .ok (.if_icmp .ge 16, 3) := by decide +kernel
theorem dX6_readSign_11 : decode cX6_readSign 11 = .ok (.aload_n 0, 1) := by decide +kernel
theorem dX6_readSign_12 : decode cX6_readSign 12 = .ok (.getfield 11, 3) := by decide +kernel
theorem dX6_readSign_15 : decode cX6_readSign 15 = .ok (.aload_n 0, 1) := by decide +kernel
theorem dX6_readSign_16 : decode cX6_readSign 16 = .ok (.getfield 19, 3) := by decide +kernel
theorem dX6_readSign_19 : decode cX6_readSign 19 = .ok (.caload, 1) := by decide +kernel
theorem dX6_readSign_20 : decode cX6_readSign 20 = .ok (.iload_n 1, 1) := by decide +kernel
theorem dX6_readSign_21 : decode cX6_readSign 21 = .ok (.if_icmp .eq 5, 3) := by decide +kernel
theorem dX6_readSign_24 : decode cX6_readSign 24 = .ok (.iconst 0, 1) := by decide +kernel
theorem dX6_readSign_25 : decode cX6_readSign 25 = .ok (.ireturn, 1) := by decide +kernel
theorem dX6_readSign_26 : decode cX6_readSign 26 = .ok (.aload_n 0, 1) := by decide +kernel
theorem dX6_readSign_27 : decode cX6_readSign 27 = .ok (.dup, 1) := by decide +kernel
theorem dX6_readSign_28 : decode cX6_readSign 28 = .ok (.getfield 19, 3) := by decide +kernel
theorem dX6_readSign_31 : decode cX6_readSign 31 = .ok (.iconst 1, 1) := by decide +kernel
theorem dX6_readSign_32 : decode cX6_readSign 32 = .ok (.iadd, 1) := by decide +kernel
theorem dX6_readSign_33 : decode cX6_readSign 33 = .ok (.putfield 19, 3) := by decide +kernel
theorem dX6_readSign_36 : decode cX6_readSign 36 = .ok (.iconst 1, 1) := by decide +kernel
theorem dX6_readSign_37 : decode cX6_readSign 37 = .ok (.ireturn, 1) := by decide +kernel
theorem dX6_isAtDigit_0 : decode cX6_isAtDigit 0 = .ok (.aload_n 0, 1) := by decide +kernel
theorem dX6_isAtDigit_1 : decode cX6_isAtDigit 1 = .ok (.getfield 19, 3) := by decide +kernel
theorem dX6_isAtDigit_4 : decode cX6_isAtDigit 4 = .ok (.aload_n 0, 1) := by decide +kernel
theorem dX6_isAtDigit_5 : decode cX6_isAtDigit 5 = .ok (.getfield 15, 3) := by decide +kernel
theorem dX6_isAtDigit_8 : decode cX6_isAtDigit 8 = .ok (.if_icmp .ge 35, 3) := by decide +kernel
theorem dX6_isAtDigit_11 : decode cX6_isAtDigit 11 = .ok (.aload_n 0, 1) := by decide +kernel
theorem dX6_isAtDigit_12 : decode cX6_isAtDigit 12 = .ok (.getfield 11, 3) := by decide +kernel
theorem dX6_isAtDigit_15 : decode cX6_isAtDigit 15 = .ok (.aload_n 0, 1) := by decide +kernel
theorem dX6_isAtDigit_16 : decode cX6_isAtDigit 16 = .ok (.getfield 19, 3) := by decide +kernel
theorem dX6_isAtDigit_19 : decode cX6_isAtDigit 19 = .ok (.caload, 1) := by decide +kernel
theorem dX6_isAtDigit_20 : decode cX6_isAtDigit 20 = .ok (.bipush 48, 2) := by decide +kernel
theorem dX6_isAtDigit_22 : decode cX6_isAtDigit 22 = .ok (.if_icmp .lt 21, 3) := by decide +kernel
theorem dX6_isAtDigit_25 : decode cX6_isAtDigit 25 = .ok (.aload_n 0, 1) := by decide +kernel
theorem dX6_isAtDigit_26 : decode cX6_isAtDigit 26 = .ok (.getfield 11, 3) := by decide +kernel
theorem dX6_isAtDigit_29 : decode cX6_isAtDigit 29 = .ok (.aload_n 0, 1) := by decide +kernel
theorem dX6_isAtDigit_30 : decode cX6_isAtDigit 30 = .ok (.getfield 19, 3) := by decide +kernel
theorem dX6_isAtDigit_33 : decode cX6_isAtDigit 33 = .ok (.caload, 1) := by decide +kernel
theorem dX6_isAtDigit_34 : decode cX6_isAtDigit 34 = .ok (.bipush 57, 2) := by decide +kernel
theorem dX6_isAtDigit_36 : decode cX6_isAtDigit 36 = .ok (.if_icmp .gt 7, 3) := by decide +kernel
theorem dX6_isAtDigit_39 : decode cX6_isAtDigit 39 = .ok (.iconst 1, 1) := by decide +kernel
theorem dX6_isAtDigit_40 : decode cX6_isAtDigit 40 = .ok (.goto 4, 3) := by decide +kernel
theorem dX6_isAtDigit_43 : decode cX6_isAtDigit 43 = .ok (.iconst 0, 1) := by decide +kernel
theorem dX6_isAtDigit_44 : decode cX6_isAtDigit 44 = .ok (.ireturn, 1) := by decide +kernel
theorem dX6_takeDigit_0 : decode cX6_takeDigit 0 = .ok (.aload_n 0, 1) := by decide +kernel
theorem dX6_takeDigit_1 : decode cX6_takeDigit 1 = .ok (.getfield 11, 3) := by decide +kernel
theorem dX6_takeDigit_4 : decode cX6_takeDigit 4 = .ok (.aload_n 0, 1) := by decide +kernel
theorem dX6_takeDigit_5 : decode cX6_takeDigit 5 = .ok (.getfield 19, 3) := by decide +kernel
theorem dX6_takeDigit_8 : decode cX6_takeDigit 8 = .ok (.caload, 1) := by decide +kernel
theorem dX6_takeDigit_9 : decode cX6_takeDigit 9 = .ok (.bipush 48, 2) := by decide +kernel
theorem dX6_takeDigit_11 : decode cX6_takeDigit 11 = .ok (.isub, 1) := by decide +kernel
theorem dX6_takeDigit_12 : decode cX6_takeDigit 12 = .ok (.istore_n 1, 1) := by decide +kernel
theorem dX6_takeDigit_13 : decode cX6_takeDigit 13 = .ok (.aload_n 0, 1) := by decide +kernel
theorem dX6_takeDigit_14 : decode cX6_takeDigit 14 = .ok (.dup, 1) := by decide +kernel
theorem dX6_takeDigit_15 : decode cX6_takeDigit 15 = .ok (.getfield 19, 3) := by decide +kernel
theorem dX6_takeDigit_18 : decode cX6_takeDigit 18 = .ok (.iconst 1, 1) := by decide +kernel
theorem dX6_takeDigit_19 : decode cX6_takeDigit 19 = .ok (.iadd, 1) := by decide +kernel
theorem dX6_takeDigit_20 : decode cX6_takeDigit 20 = .ok (.putfield 19, 3) := by decide +kernel
theorem dX6_takeDigit_23 : decode cX6_takeDigit 23 = .ok (.iload_n 1, 1) := by decide +kernel
theorem dX6_takeDigit_24 : decode cX6_takeDigit 24 = .ok (.ireturn, 1) := by decide +kernel
theorem dX7_init_0 : decode cX7_init 0 = .ok (.aload_n 0, 1) := by decide +kernel
theorem dX7_init_1 : decode cX7_init 1 = .ok (.invokespecial 1, 3) := by decide +kernel
theorem dX7_init_4 : decode cX7_init 4 = .ok (.aload_n 0, 1) := by decide +kernel
theorem dX7_init_5 : decode cX7_init 5 = .ok (.iconst 0, 1) := by decide +kernel
theorem dX7_init_6 : decode cX7_init 6 = .ok (.putfield 7, 3) := by decide +kernel
theorem dX7_init_9 : decode cX7_init 9 = .ok (.aload_n 0, 1) := by decide +kernel
theorem dX7_init_10 : decode cX7_init 10 = .ok (.iconst 0, 1) := by decide +kernel
theorem dX7_init_11 : decode cX7_init 11 = .ok (.putfield 13, 3) := by decide +kernel
theorem dX7_init_14 : decode cX7_init 14 = .ok (.aload_n 0, 1) := by decide +kernel
theorem dX7_init_15 : decode cX7_init 15 = .ok (.bipush 10, 2) := by decide +kernel
theorem dX7_init_17 : decode cX7_init 17 = .ok (.newarray .int, 2) := by decide +kernel
theorem dX7_init_19 : decode cX7_init 19 = .ok (.putfield 16, 3) := by decide +kernel
theorem dX7_init_22 : decode cX7_init 22 = .ok (.aload_n 0, 1) := by decide +kernel
theorem dX7_init_23 : decode cX7_init 23 = .ok (.bipush 10, 2) := by decide +kernel
theorem dX7_init_25 : decode cX7_init 25 = .ok (.newarray .int, 2) := by decide +kernel
theorem dX7_init_27 : decode cX7_init 27 = .ok (.putfield 20, 3) := by decide +kernel
theorem dX7_init_30 : decode cX7_init 30 = .ok (.aload_n 0, 1) := by decide +kernel
theorem dX7_init_31 : decode cX7_init 31 = .ok (.bipush 10, 2) := by decide +kernel
theorem dX7_init_33 : decode cX7_init 33 = .ok (.newarray .int, 2) := by decide +kernel
theorem dX7_init_35 : decode cX7_init 35 = .ok (.putfield 23, 3) := by decide +kernel
theorem dX7_init_38 : decode cX7_init 38 = .ok (.aload_n 0, 1) := by decide +kernel
theorem dX7_init_39 : decode cX7_init 39 = .ok (.bipush 10, 2) := by decide +kernel
theorem dX7_init_41 : decode cX7_init 41 = .ok (.newarray .int, 2) := by decide +kernel
theorem dX7_init_43 : decode cX7_init 43 = .ok (.putfield 26, 3) := by decide +kernel
theorem dX7_init_46 : decode cX7_init 46 = .ok (.return_, 1) := by decide +kernel
theorem dX7_copyFrom_0 : decode cX7_copyFrom 0 = .ok (.aload_n 0, 1) := by decide +kernel
theorem dX7_copyFrom_1 : decode cX7_copyFrom 1 = .ok (.aload_n 1, 1) := by decide +kernel
theorem dX7_copyFrom_2 : decode cX7_copyFrom 2 = .ok (.getfield 7, 3) := by decide +kernel
theorem dX7_copyFrom_5 : decode cX7_copyFrom 5 = .ok (.putfield 7, 3) := by decide +kernel
theorem dX7_copyFrom_8 : decode cX7_copyFrom 8 = .ok (.aload_n 0, 1) := by decide +kernel
theorem dX7_copyFrom_9 : decode cX7_copyFrom 9 = .ok (.aload_n 1, 1) := by decide +kernel
theorem dX7_copyFrom_10 : decode cX7_copyFrom 10 = .ok (.getfield 13, 3) := by decide +kernel
theorem dX7_copyFrom_13 : decode cX7_copyFrom 13 = .ok (.putfield 13, 3) := by decide +kernel
theorem dX7_copyFrom_16 : decode cX7_copyFrom 16 = .ok (.aload_n 1, 1) := by decide +kernel
theorem dX7_copyFrom_17 : decode cX7_copyFrom 17 = .ok (.getfield 16, 3) := by decide +kernel
theorem dX7_copyFrom_20 : decode cX7_copyFrom 20 = .ok (.iconst 0, 1) := by decide +kernel
theorem dX7_copyFrom_21 : decode cX7_copyFrom 21 = .ok (.aload_n 0, 1) := by decide +kernel
theorem dX7_copyFrom_22 : decode cX7_copyFrom 22 = .ok (.getfield 16, 3) := by decide +kernel
theorem dX7_copyFrom_25 : decode cX7_copyFrom 25 = .ok (.iconst 0, 1) := by decide +kernel
theorem dX7_copyFrom_26 : decode cX7_copyFrom 26 = .ok (.bipush 10, 2) := by decide +kernel
theorem dX7_copyFrom_28 : decode cX7_copyFrom 28 = .ok (.invokestatic 29, 3) := by decide +kernel
theorem dX7_copyFrom_31 : decode cX7_copyFrom 31 = .ok (.aload_n 1, 1) := by decide +kernel
theorem dX7_copyFrom_32 : decode cX7_copyFrom 32 = .ok (.getfield 20, 3) := by decide +kernel
theorem dX7_copyFrom_35 : decode cX7_copyFrom 35 = .ok (.iconst 0, 1) := by decide +kernel
theorem dX7_copyFrom_36 : decode cX7_copyFrom 36 = .ok (.aload_n 0, 1) := by decide +kernel
theorem dX7_copyFrom_37 : decode cX7_copyFrom 37 = .ok (.getfield 20, 3) := by decide +kernel
theorem dX7_copyFrom_40 : decode cX7_copyFrom 40 = .ok (.iconst 0, 1) := by decide +kernel
theorem dX7_copyFrom_41 : decode cX7_copyFrom 41 = .ok (.bipush 10, 2) := by decide +kernel
theorem dX7_copyFrom_43 : decode cX7_copyFrom 43 = .ok (.invokestatic 29, 3) := by decide +kernel
theorem dX7_copyFrom_46 : decode cX7_copyFrom 46 = .ok (.aload_n 1, 1) := by decide +kernel
theorem dX7_copyFrom_47 : decode cX7_copyFrom 47 = .ok (.getfield 23, 3) := by decide +kernel
theorem dX7_copyFrom_50 : decode cX7_copyFrom 50 = .ok (.iconst 0, 1) := by decide +kernel
theorem dX7_copyFrom_51 : decode cX7_copyFrom 51 = .ok (.aload_n 0, 1) := by decide +kernel
theorem dX7_copyFrom_52 : decode cX7_copyFrom 52 = .ok (.getfield 23, 3) := by decide +kernel
theorem dX7_copyFrom_55 : decode cX7_copyFrom 55 = .ok (.iconst 0, 1) := by decide +kernel
theorem dX7_copyFrom_56 : decode cX7_copyFrom 56 = .ok (.bipush 10, 2) := by decide +kernel
theorem dX7_copyFrom_58 : decode cX7_copyFrom 58 = .ok (.invokestatic 29, 3) := by decide +kernel
theorem dX7_copyFrom_61 : decode cX7_copyFrom 61 = .ok (.aload_n 1, 1) := by decide +kernel
theorem dX7_copyFrom_62 : decode cX7_copyFrom 62 = .ok (.getfield 26, 3) := by decide +kernel
theorem dX7_copyFrom_65 : decode cX7_copyFrom 65 = .ok (.iconst 0, 1) := by decide +kernel
theorem dX7_copyFrom_66 : decode cX7_copyFrom 66 = .ok (.aload_n 0, 1) := by decide +kernel
theorem dX7_copyFrom_67 : decode cX7_copyFrom 67 = .ok (.getfield 26, 3) := by decide +kernel
theorem dX7_copyFrom_70 : decode cX7_copyFrom 70 = .ok (.iconst 0, 1) := by decide +kernel
theorem dX7_copyFrom_71 : decode cX7_copyFrom 71 = .ok (.bipush 10, 2) := by decide +kernel
theorem dX7_copyFrom_73 : decode cX7_copyFrom 73 = .ok (.invokestatic 29, 3) := by decide +kernel
theorem dX7_copyFrom_76 : decode cX7_copyFrom 76 = .ok (.return_, 1) := by decide +kernel
theorem dX7_holds_0 : decode cX7_holds 0 = .ok (.iload_n 1, 1) := by decide +kernel
theorem dX7_holds_1 : decode cX7_holds 1 = .ok (.ifCond .lt 21, 3) := by decide +kernel
theorem dX7_holds_4 : decode cX7_holds 4 = .ok (.iload_n 1, 1) := by decide +kernel
theorem dX7_holds_5 : decode cX7_holds 5 = .ok (.bipush 10, 2) := by decide +kernel
theorem dX7_holds_7 : decode cX7_holds 7 = .ok (.if_icmp .ge 15, 3) := by decide +kernel
theorem dX7_holds_10 : decode cX7_holds 10 = .ok (.iload_n 1, 1) := by decide +kernel
theorem dX7_holds_11 : decode cX7_holds 11 = .ok (.aload_n 0, 1) := by decide +kernel
theorem dX7_holds_12 : decode cX7_holds 12 = .ok (.getfield 7, 3) := by decide +kernel
theorem dX7_holds_15 : decode cX7_holds 15 = .ok (.if_icmp .ge 7, 3) := by decide +kernel
theorem dX7_holds_18 : decode cX7_holds 18 = .ok (.iconst 1, 1) := by decide +kernel
theorem dX7_holds_19 : decode cX7_holds 19 = .ok (.goto 4, 3) := by decide +kernel
theorem dX7_holds_22 : decode cX7_holds 22 = .ok (.iconst 0, 1) := by decide +kernel
theorem dX7_holds_23 : decode cX7_holds 23 = .ok (.ireturn, 1) := by decide +kernel
theorem dX7_note_0 : decode cX7_note 0 = .ok (.aload_n 0, 1) := by decide +kernel
theorem dX7_note_1 : decode cX7_note 1 = .ok (.getfield 16, 3) := by decide +kernel
theorem dX7_note_4 : decode cX7_note 4 = .ok (.iconst 0, 1) := by decide +kernel
theorem dX7_note_5 : decode cX7_note 5 = .ok (.aload_n 0, 1) := by decide +kernel
theorem dX7_note_6 : decode cX7_note 6 = .ok (.getfield 16, 3) := by decide +kernel
theorem dX7_note_9 : decode cX7_note 9 = .ok (.iconst 1, 1) := by decide +kernel
theorem dX7_note_10 : decode cX7_note 10 = .ok (.bipush 9, 2) := by decide +kernel
theorem dX7_note_12 : decode cX7_note 12 = .ok (.invokestatic 29, 3) := by decide +kernel
theorem dX7_note_15 : decode cX7_note 15 = .ok (.aload_n 0, 1) := by decide +kernel
theorem dX7_note_16 : decode cX7_note 16 = .ok (.getfield 20, 3) := by decide +kernel
theorem dX7_note_19 : decode cX7_note 19 = .ok (.iconst 0, 1) := by decide +kernel
theorem dX7_note_20 : decode cX7_note 20 = .ok (.aload_n 0, 1) := by decide +kernel
theorem dX7_note_21 : decode cX7_note 21 = .ok (.getfield 20, 3) := by decide +kernel
theorem dX7_note_24 : decode cX7_note 24 = .ok (.iconst 1, 1) := by decide +kernel
theorem dX7_note_25 : decode cX7_note 25 = .ok (.bipush 9, 2) := by decide +kernel
theorem dX7_note_27 : decode cX7_note 27 = .ok (.invokestatic 29, 3) := by decide +kernel
theorem dX7_note_30 : decode cX7_note 30 = .ok (.aload_n 0, 1) := by decide +kernel
theorem dX7_note_31 : decode cX7_note 31 = .ok (.getfield 23, 3) := by decide +kernel
theorem dX7_note_34 : decode cX7_note 34 = .ok (.iconst 0, 1) := by decide +kernel
theorem dX7_note_35 : decode cX7_note 35 = .ok (.aload_n 0, 1) := by decide +kernel
theorem dX7_note_36 : decode cX7_note 36 = .ok (.getfield 23, 3) := by decide +kernel
theorem dX7_note_39 : decode cX7_note 39 = .ok (.iconst 1, 1) := by decide +kernel
theorem dX7_note_40 : decode cX7_note 40 = .ok (.bipush 9, 2) := by decide +kernel
theorem dX7_note_42 : decode cX7_note 42 = .ok (.invokestatic 29, 3) := by decide +kernel
theorem dX7_note_45 : decode cX7_note 45 = .ok (.aload_n 0, 1) := by decide +kernel
theorem dX7_note_46 : decode cX7_note 46 = .ok (.getfield 26, 3) := by decide +kernel
theorem dX7_note_49 : decode cX7_note 49 = .ok (.iconst 0, 1) := by decide +kernel
theorem dX7_note_50 : decode cX7_note 50 = .ok (.aload_n 0, 1) := by decide +kernel
theorem dX7_note_51 : decode cX7_note 51 = .ok (.getfield 26, 3) := by decide +kernel
theorem dX7_note_54 : decode cX7_note 54 = .ok (.iconst 1, 1) := by decide +kernel
theorem dX7_note_55 : decode cX7_note 55 = .ok (.bipush 9, 2) := by decide +kernel
theorem dX7_note_57 : decode cX7_note 57 = .ok (.invokestatic 29, 3) := by decide +kernel
theorem dX7_note_60 : decode cX7_note 60 = .ok (.aload_n 0, 1) := by decide +kernel
theorem dX7_note_61 : decode cX7_note 61 = .ok (.getfield 16, 3) := by decide +kernel
theorem dX7_note_64 : decode cX7_note 64 = .ok (.iconst 0, 1) := by decide +kernel
theorem dX7_note_65 : decode cX7_note 65 = .ok (.iload_n 1, 1) := by decide +kernel
theorem dX7_note_66 : decode cX7_note 66 = .ok (.iastore, 1) := by decide +kernel
theorem dX7_note_67 : decode cX7_note 67 = .ok (.aload_n 0, 1) := by decide +kernel
theorem dX7_note_68 : decode cX7_note 68 = .ok (.getfield 20, 3) := by decide +kernel
theorem dX7_note_71 : decode cX7_note 71 = .ok (.iconst 0, 1) := by decide +kernel
theorem dX7_note_72 : decode cX7_note 72 = .ok (.iload_n 2, 1) := by decide +kernel
theorem dX7_note_73 : decode cX7_note 73 = .ok (.iastore, 1) := by decide +kernel
theorem dX7_note_74 : decode cX7_note 74 = .ok (.aload_n 0, 1) := by decide +kernel
theorem dX7_note_75 : decode cX7_note 75 = .ok (.getfield 23, 3) := by decide +kernel
theorem dX7_note_78 : decode cX7_note 78 = .ok (.iconst 0, 1) := by decide +kernel
theorem dX7_note_79 : decode cX7_note 79 = .ok (.iload_n 3, 1) := by decide +kernel
theorem dX7_note_80 : decode cX7_note 80 = .ok (.iastore, 1) := by decide +kernel
theorem dX7_note_81 : decode cX7_note 81 = .ok (.aload_n 0, 1) := by decide +kernel
theorem dX7_note_82 : decode cX7_note 82 = .ok (.getfield 26, 3) := by decide +kernel
theorem dX7_note_85 : decode cX7_note 85 = .ok (.iconst 0, 1) := by decide +kernel
theorem dX7_note_86 : decode cX7_note 86 = .ok (.iload 4, 2) := by decide +kernel
theorem dX7_note_88 : decode cX7_note 88 = .ok (.iastore, 1) := by decide +kernel
theorem dX7_note_89 : decode cX7_note 89 = .ok (.aload_n 0, 1) := by decide +kernel
theorem dX7_note_90 : decode cX7_note 90 = .ok (.dup, 1) := by decide +kernel
theorem dX7_note_91 : decode cX7_note 91 = .ok (.getfield 7, 3) := by decide +kernel
theorem dX7_note_94 : decode cX7_note 94 = .ok (.iconst 1, 1) := by decide +kernel
theorem dX7_note_95 : decode cX7_note 95 = .ok (.iadd, 1) := by decide +kernel
theorem dX7_note_96 : decode cX7_note 96 = .ok (.putfield 7, 3) := by decide +kernel
theorem dX7_note_99 : decode cX7_note 99 = .ok (.aload_n 0, 1) := by decide +kernel
theorem dX7_note_100 : decode cX7_note 100 = .ok (.dup, 1) := by decide +kernel
theorem dX7_note_101 : decode cX7_note 101 = .ok (.getfield 13, 3) := by decide +kernel
theorem dX7_note_104 : decode cX7_note 104 = .ok (.iload 4, 2) := by decide +kernel
theorem dX7_note_106 : decode cX7_note 106 = .ok (.iadd, 1) := by decide +kernel
theorem dX7_note_107 : decode cX7_note 107 = .ok (.putfield 13, 3) := by decide +kernel
theorem dX7_note_110 : decode cX7_note 110 = .ok (.return_, 1) := by decide +kernel
theorem dX8_init_0 : decode cX8_init 0 = .ok (.aload_n 0, 1) := by decide +kernel
theorem dX8_init_1 : decode cX8_init 1 = .ok (.invokespecial 1, 3) := by decide +kernel
theorem dX8_init_4 : decode cX8_init 4 = .ok (.aload_n 0, 1) := by decide +kernel
theorem dX8_init_5 : decode cX8_init 5 = .ok (.new 7, 3) := by decide +kernel
theorem dX8_init_8 : decode cX8_init 8 = .ok (.dup, 1) := by decide +kernel
theorem dX8_init_9 : decode cX8_init 9 = .ok (.invokespecial 9, 3) := by decide +kernel
theorem dX8_init_12 : decode cX8_init 12 = .ok (.putfield 10, 3) := by decide +kernel
theorem dX8_init_15 : decode cX8_init 15 = .ok (.aload_n 0, 1) := by decide +kernel
theorem dX8_init_16 : decode cX8_init 16 = .ok (.new 7, 3) := by decide +kernel
theorem dX8_init_19 : decode cX8_init 19 = .ok (.dup, 1) := by decide +kernel
theorem dX8_init_20 : decode cX8_init 20 = .ok (.invokespecial 9, 3) := by decide +kernel
theorem dX8_init_23 : decode cX8_init 23 = .ok (.putfield 16, 3) := by decide +kernel
theorem dX8_init_26 : decode cX8_init 26 = .ok (.aload_n 0, 1) := by decide +kernel
theorem dX8_init_27 : decode cX8_init 27 = .ok (.new 7, 3) := by decide +kernel
theorem dX8_init_30 : decode cX8_init 30 = .ok (.dup, 1) := by decide +kernel
theorem dX8_init_31 : decode cX8_init 31 = .ok (.invokespecial 9, 3) := by decide +kernel
theorem dX8_init_34 : decode cX8_init 34 = .ok (.putfield 19, 3) := by decide +kernel
theorem dX8_init_37 : decode cX8_init 37 = .ok (.aload_n 0, 1) := by decide +kernel
theorem dX8_init_38 : decode cX8_init 38 = .ok (.iconst 0, 1) := by decide +kernel
theorem dX8_init_39 : decode cX8_init 39 = .ok (.putfield 22, 3) := by decide +kernel
theorem dX8_init_42 : decode cX8_init 42 = .ok (.aload_n 0, 1) := by decide +kernel
theorem dX8_init_43 : decode cX8_init 43 = .ok (.new 26, 3) := by decide +kernel
theorem dX8_init_46 : decode cX8_init 46 = .ok (.dup, 1) := by decide +kernel
theorem dX8_init_47 : decode cX8_init 47 = .ok (.invokespecial 28, 3) := by decide +kernel
theorem dX8_init_50 : decode cX8_init 50 = .ok (.putfield 29, 3) := by decide +kernel
theorem dX8_init_53 : decode cX8_init 53 = .ok (.aload_n 0, 1) := by decide +kernel
theorem dX8_init_54 : decode cX8_init 54 = .ok (.new 33, 3) := by decide +kernel
theorem dX8_init_57 : decode cX8_init 57 = .ok (.dup, 1) := by decide +kernel
theorem dX8_init_58 : decode cX8_init 58 = .ok (.invokespecial 35, 3) := by decide +kernel
theorem dX8_init_61 : decode cX8_init 61 = .ok (.putfield 36, 3) := by decide +kernel
theorem dX8_init_64 : decode cX8_init 64 = .ok (.aload_n 0, 1) := by decide +kernel
theorem dX8_init_65 : decode cX8_init 65 = .ok (.new 40, 3) := by decide +kernel
theorem dX8_init_68 : decode cX8_init 68 = .ok (.dup, 1) := by decide +kernel
theorem dX8_init_69 : decode cX8_init 69 = .ok (.invokespecial 42, 3) := by decide +kernel
theorem dX8_init_72 : decode cX8_init 72 = .ok (.putfield 43, 3) := by decide +kernel
theorem dX8_init_75 : decode cX8_init 75 = .ok (.aload_n 0, 1) := by decide +kernel
theorem dX8_init_76 : decode cX8_init 76 = .ok (.iconst (-1), 1) := by decide +kernel
theorem dX8_init_77 : decode cX8_init 77 = .ok (.putfield 47, 3) := by decide +kernel
theorem dX8_init_80 : decode cX8_init 80 = .ok (.aload_n 0, 1) := by decide +kernel
theorem dX8_init_81 : decode cX8_init 81 = .ok (.iconst (-1), 1) := by decide +kernel
theorem dX8_init_82 : decode cX8_init 82 = .ok (.putfield 51, 3) := by decide +kernel
theorem dX8_init_85 : decode cX8_init 85 = .ok (.aload_n 0, 1) := by decide +kernel
theorem dX8_init_86 : decode cX8_init 86 = .ok (.iconst (-1), 1) := by decide +kernel
theorem dX8_init_87 : decode cX8_init 87 = .ok (.putfield 54, 3) := by decide +kernel
theorem dX8_init_90 : decode cX8_init 90 = .ok (.aload_n 0, 1) := by decide +kernel
theorem dX8_init_91 : decode cX8_init 91 = .ok (.iconst (-1), 1) := by decide +kernel
theorem dX8_init_92 : decode cX8_init 92 = .ok (.putfield 57, 3) := by decide +kernel
theorem dX8_init_95 : decode cX8_init 95 = .ok (.return_, 1) := by decide +kernel
theorem dX8_addShip_0 : decode cX8_addShip 0 = .ok (.aload_n 0, 1) := by decide +kernel
theorem dX8_addShip_1 : decode cX8_addShip 1 = .ok (.bipush 115, 2) := by decide +kernel
theorem dX8_addShip_3 : decode cX8_addShip 3 = .ok (.iload_n 1, 1) := by decide +kernel
theorem dX8_addShip_4 : decode cX8_addShip 4 = .ok (.iload_n 2, 1) := by decide +kernel
theorem dX8_addShip_5 : decode cX8_addShip 5 = .ok (.iconst 0, 1) := by decide +kernel
theorem dX8_addShip_6 : decode cX8_addShip 6 = .ok (.invokevirtual 60, 3) := by decide +kernel
theorem dX8_addShip_9 : decode cX8_addShip 9 = .ok (.ireturn, 1) := by decide +kernel
theorem dX8_addBarnacle_0 : decode cX8_addBarnacle 0 = .ok (.aload_n 0, 1) := by decide +kernel
theorem dX8_addBarnacle_1 : decode cX8_addBarnacle 1 = .ok (.bipush 97, 2) := by decide +kernel
theorem dX8_addBarnacle_3 : decode cX8_addBarnacle 3 = .ok (.iload_n 1, 1) := by decide +kernel
theorem dX8_addBarnacle_4 : decode cX8_addBarnacle 4 = .ok (.iload_n 2, 1) := by decide +kernel
theorem dX8_addBarnacle_5 : decode cX8_addBarnacle 5 = .ok (.iconst 0, 1) := by decide +kernel
theorem dX8_addBarnacle_6 : decode cX8_addBarnacle 6 = .ok (.invokevirtual 60, 3) := by decide +kernel
theorem dX8_addBarnacle_9 : decode cX8_addBarnacle 9 = .ok (.ireturn, 1) := by decide +kernel
theorem dX8_giveCoins_0 : decode cX8_giveCoins 0 = .ok (.aload_n 0, 1) := by decide +kernel
theorem dX8_giveCoins_1 : decode cX8_giveCoins 1 = .ok (.bipush 99, 2) := by decide +kernel
theorem dX8_giveCoins_3 : decode cX8_giveCoins 3 = .ok (.iload_n 1, 1) := by decide +kernel
theorem dX8_giveCoins_4 : decode cX8_giveCoins 4 = .ok (.iload_n 2, 1) := by decide +kernel
theorem dX8_giveCoins_5 : decode cX8_giveCoins 5 = .ok (.iconst 0, 1) := by decide +kernel
theorem dX8_giveCoins_6 : decode cX8_giveCoins 6 = .ok (.invokevirtual 60, 3) := by decide +kernel
theorem dX8_giveCoins_9 : decode cX8_giveCoins 9 = .ok (.ireturn, 1) := by decide +kernel
theorem dX8_shipCount_0 : decode cX8_shipCount 0 = .ok (.aload_n 0, 1) := by decide +kernel
theorem dX8_shipCount_1 : decode cX8_shipCount 1 = .ok (.getfield 10, 3) := by decide +kernel
theorem dX8_shipCount_4 : decode cX8_shipCount 4 = .ok (.getfield 64, 3) := by decide +kernel
theorem dX8_shipCount_7 : decode cX8_shipCount 7 = .ok (.getfield 68, 3) := by decide +kernel
theorem dX8_shipCount_10 : decode cX8_shipCount 10 = .ok (.ireturn, 1) := by decide +kernel
theorem dX8_coinsOf_0 : decode cX8_coinsOf 0 = .ok (.aload_n 0, 1) := by decide +kernel
theorem dX8_coinsOf_1 : decode cX8_coinsOf 1 = .ok (.iload_n 1, 1) := by decide +kernel
theorem dX8_coinsOf_2 : decode cX8_coinsOf 2 = .ok (.invokevirtual 73, 3) := by decide +kernel
theorem dX8_coinsOf_5 : decode cX8_coinsOf 5 = .ok (.aload_n 0, 1) := by decide +kernel
theorem dX8_coinsOf_6 : decode cX8_coinsOf 6 = .ok (.getfield 10, 3) := by decide +kernel
theorem dX8_coinsOf_9 : decode cX8_coinsOf 9 = .ok (.getfield 64, 3) := by decide +kernel
theorem dX8_coinsOf_12 : decode cX8_coinsOf 12 = .ok (.getfield 77, 3) := by decide +kernel
theorem dX8_coinsOf_15 : decode cX8_coinsOf 15 = .ok (.iload_n 1, 1) := by decide +kernel
theorem dX8_coinsOf_16 : decode cX8_coinsOf 16 = .ok (.iaload, 1) := by decide +kernel
theorem dX8_coinsOf_17 : decode cX8_coinsOf 17 = .ok (.ireturn, 1) := by decide +kernel
theorem dX8_reservedCoins_0 : decode cX8_reservedCoins 0 = .ok (.aload_n 0, 1) := by decide +kernel
theorem dX8_reservedCoins_1 : decode cX8_reservedCoins 1 = .ok (.iload_n 1, 1) := by decide +kernel
theorem dX8_reservedCoins_2 : decode cX8_reservedCoins 2 = .ok (.invokevirtual 73, 3) := by decide +kernel
theorem dX8_reservedCoins_5 : decode cX8_reservedCoins 5 = .ok (.aload_n 0, 1) := by decide +kernel
theorem dX8_reservedCoins_6 : decode cX8_reservedCoins 6 = .ok (.getfield 10, 3) := by decide +kernel
theorem dX8_reservedCoins_9 : decode cX8_reservedCoins 9 = .ok (.getfield 81, 3) := by decide +kernel
theorem dX8_reservedCoins_12 : decode cX8_reservedCoins 12 = .ok (.iload_n 1, 1) := by decide +kernel
theorem dX8_reservedCoins_13 : decode cX8_reservedCoins 13 = .ok (.invokevirtual 85, 3) := by decide +kernel
theorem dX8_reservedCoins_16 : decode cX8_reservedCoins 16 = .ok (.ireturn, 1) := by decide +kernel
theorem dX8_capacityOf_0 : decode cX8_capacityOf 0 = .ok (.aload_n 0, 1) := by decide +kernel
theorem dX8_capacityOf_1 : decode cX8_capacityOf 1 = .ok (.iload_n 1, 1) := by decide +kernel
theorem dX8_capacityOf_2 : decode cX8_capacityOf 2 = .ok (.invokevirtual 73, 3) := by decide +kernel
theorem dX8_capacityOf_5 : decode cX8_capacityOf 5 = .ok (.aload_n 0, 1) := by decide +kernel
theorem dX8_capacityOf_6 : decode cX8_capacityOf 6 = .ok (.getfield 10, 3) := by decide +kernel
theorem dX8_capacityOf_9 : decode cX8_capacityOf 9 = .ok (.getfield 64, 3) := by decide +kernel
theorem dX8_capacityOf_12 : decode cX8_capacityOf 12 = .ok (.getfield 91, 3) := by decide +kernel
theorem dX8_capacityOf_15 : decode cX8_capacityOf 15 = .ok (.iload_n 1, 1) := by decide +kernel
theorem dX8_capacityOf_16 : decode cX8_capacityOf 16 = .ok (.iaload, 1) := by decide +kernel
theorem dX8_capacityOf_17 : decode cX8_capacityOf 17 = .ok (.ireturn, 1) := by decide +kernel
theorem dX8_loadOf_0 : decode cX8_loadOf 0 = .ok (.aload_n 0, 1) := by decide +kernel
theorem dX8_loadOf_1 : decode cX8_loadOf 1 = .ok (.iload_n 1, 1) := by decide +kernel
theorem dX8_loadOf_2 : decode cX8_loadOf 2 = .ok (.invokevirtual 73, 3) := by decide +kernel
theorem dX8_loadOf_5 : decode cX8_loadOf 5 = .ok (.aload_n 0, 1) := by decide +kernel
theorem dX8_loadOf_6 : decode cX8_loadOf 6 = .ok (.getfield 10, 3) := by decide +kernel
theorem dX8_loadOf_9 : decode cX8_loadOf 9 = .ok (.getfield 64, 3) := by decide +kernel
theorem dX8_loadOf_12 : decode cX8_loadOf 12 = .ok (.iload_n 1, 1) := by decide +kernel
theorem dX8_loadOf_13 : decode cX8_loadOf 13 = .ok (.invokevirtual 94, 3) := by decide +kernel
theorem dX8_loadOf_16 : decode cX8_loadOf 16 = .ok (.ireturn, 1) := by decide +kernel
theorem dX8_freePlaces_0 : decode cX8_freePlaces 0 = .ok (.aload_n 0, 1) := by decide +kernel
theorem dX8_freePlaces_1 : decode cX8_freePlaces 1 = .ok (.iload_n 1, 1) := by decide +kernel
theorem dX8_freePlaces_2 : decode cX8_freePlaces 2 = .ok (.invokevirtual 73, 3) := by decide +kernel
theorem dX8_freePlaces_5 : decode cX8_freePlaces 5 = .ok (.aload_n 0, 1) := by decide +kernel
theorem dX8_freePlaces_6 : decode cX8_freePlaces 6 = .ok (.getfield 10, 3) := by decide +kernel
theorem dX8_freePlaces_9 : decode cX8_freePlaces 9 = .ok (.iload_n 1, 1) := by decide +kernel
theorem dX8_freePlaces_10 : decode cX8_freePlaces 10 = .ok (.invokevirtual 97, 3) := by decide +kernel
theorem dX8_freePlaces_13 : decode cX8_freePlaces 13 = .ok (.ireturn, 1) := by decide +kernel
theorem dX8_barnacleAt_0 : decode cX8_barnacleAt 0 = .ok (.aload_n 0, 1) := by decide +kernel
theorem dX8_barnacleAt_1 : decode cX8_barnacleAt 1 = .ok (.iload_n 1, 1) := by decide +kernel
theorem dX8_barnacleAt_2 : decode cX8_barnacleAt 2 = .ok (.invokevirtual 73, 3) := by decide +kernel
theorem dX8_barnacleAt_5 : decode cX8_barnacleAt 5 = .ok (.aload_n 0, 1) := by decide +kernel
theorem dX8_barnacleAt_6 : decode cX8_barnacleAt 6 = .ok (.getfield 10, 3) := by decide +kernel
theorem dX8_barnacleAt_9 : decode cX8_barnacleAt 9 = .ok (.getfield 64, 3) := by decide +kernel
theorem dX8_barnacleAt_12 : decode cX8_barnacleAt 12 = .ok (.iload_n 1, 1) := by decide +kernel
theorem dX8_barnacleAt_13 : decode cX8_barnacleAt 13 = .ok (.iload_n 2, 1) := by decide +kernel
theorem dX8_barnacleAt_14 : decode cX8_barnacleAt 14 = .ok (.invokevirtual 100, 3) := by decide +kernel
theorem dX8_barnacleAt_17 : decode cX8_barnacleAt 17 = .ok (.istore_n 3, 1) := by decide +kernel
theorem dX8_barnacleAt_18 : decode cX8_barnacleAt 18 = .ok (.iload_n 3, 1) := by decide +kernel
theorem dX8_barnacleAt_19 : decode cX8_barnacleAt 19 = .ok (.iconst (-1), 1) := by decide +kernel
theorem dX8_barnacleAt_20 : decode cX8_barnacleAt 20 = .ok (.if_icmp .ne 13, 3) := by decide +kernel
theorem dX8_barnacleAt_23 : decode cX8_barnacleAt 23 = .ok (.new 104, 3) := by decide +kernel
theorem dX8_barnacleAt_26 : decode cX8_barnacleAt 26 = .ok (.dup, 1) := by decide +kernel
theorem dX8_barnacleAt_27 : decode cX8_barnacleAt 27 = .ok (.ldc 106, 2) := by decide +kernel
theorem dX8_barnacleAt_29 : decode cX8_barnacleAt 29 = .ok (.invokespecial 108, 3) := by decide +kernel
theorem dX8_barnacleAt_32 : decode cX8_barnacleAt 32 = .ok (.athrow, 1) := by decide +kernel
theorem dX8_barnacleAt_33 : decode cX8_barnacleAt 33 = .ok (.iload_n 3, 1) := by decide +kernel
theorem dX8_barnacleAt_34 : decode cX8_barnacleAt 34 = .ok (.ireturn, 1) := by decide +kernel
theorem dX8_barnacleCount_0 : decode cX8_barnacleCount 0 = .ok (.aload_n 0, 1) := by decide +kernel
theorem dX8_barnacleCount_1 : decode cX8_barnacleCount 1 = .ok (.getfield 10, 3) := by decide +kernel
theorem dX8_barnacleCount_4 : decode cX8_barnacleCount 4 = .ok (.getfield 64, 3) := by decide +kernel
theorem dX8_barnacleCount_7 : decode cX8_barnacleCount 7 = .ok (.getfield 111, 3) := by decide +kernel
theorem dX8_barnacleCount_10 : decode cX8_barnacleCount 10 = .ok (.ireturn, 1) := by decide +kernel
theorem dX8_shipOf_0 : decode cX8_shipOf 0 = .ok (.aload_n 0, 1) := by decide +kernel
theorem dX8_shipOf_1 : decode cX8_shipOf 1 = .ok (.iload_n 1, 1) := by decide +kernel
theorem dX8_shipOf_2 : decode cX8_shipOf 2 = .ok (.invokevirtual 114, 3) := by decide +kernel
theorem dX8_shipOf_5 : decode cX8_shipOf 5 = .ok (.aload_n 0, 1) := by decide +kernel
theorem dX8_shipOf_6 : decode cX8_shipOf 6 = .ok (.getfield 10, 3) := by decide +kernel
theorem dX8_shipOf_9 : decode cX8_shipOf 9 = .ok (.getfield 64, 3) := by decide +kernel
theorem dX8_shipOf_12 : decode cX8_shipOf 12 = .ok (.getfield 117, 3) := by decide +kernel
theorem dX8_shipOf_15 : decode cX8_shipOf 15 = .ok (.iload_n 1, 1) := by decide +kernel
theorem dX8_shipOf_16 : decode cX8_shipOf 16 = .ok (.iaload, 1) := by decide +kernel
theorem dX8_shipOf_17 : decode cX8_shipOf 17 = .ok (.ireturn, 1) := by decide +kernel
theorem dX8_gradeOf_0 : decode cX8_gradeOf 0 = .ok (.aload_n 0, 1) := by decide +kernel
theorem dX8_gradeOf_1 : decode cX8_gradeOf 1 = .ok (.iload_n 1, 1) := by decide +kernel
theorem dX8_gradeOf_2 : decode cX8_gradeOf 2 = .ok (.invokevirtual 114, 3) := by decide +kernel
theorem dX8_gradeOf_5 : decode cX8_gradeOf 5 = .ok (.aload_n 0, 1) := by decide +kernel
theorem dX8_gradeOf_6 : decode cX8_gradeOf 6 = .ok (.getfield 10, 3) := by decide +kernel
theorem dX8_gradeOf_9 : decode cX8_gradeOf 9 = .ok (.getfield 64, 3) := by decide +kernel
theorem dX8_gradeOf_12 : decode cX8_gradeOf 12 = .ok (.getfield 120, 3) := by decide +kernel
theorem dX8_gradeOf_15 : decode cX8_gradeOf 15 = .ok (.iload_n 1, 1) := by decide +kernel
theorem dX8_gradeOf_16 : decode cX8_gradeOf 16 = .ok (.iaload, 1) := by decide +kernel
theorem dX8_gradeOf_17 : decode cX8_gradeOf 17 = .ok (.ireturn, 1) := by decide +kernel
theorem dX8_isOffered_0 : decode cX8_isOffered 0 = .ok (.aload_n 0, 1) := by decide +kernel
theorem dX8_isOffered_1 : decode cX8_isOffered 1 = .ok (.iload_n 1, 1) := by decide +kernel
theorem dX8_isOffered_2 : decode cX8_isOffered 2 = .ok (.invokevirtual 114, 3) := by decide +kernel
theorem dX8_isOffered_5 : decode cX8_isOffered 5 = .ok (.aload_n 0, 1) := by decide +kernel
theorem dX8_isOffered_6 : decode cX8_isOffered 6 = .ok (.getfield 10, 3) := by decide +kernel
theorem dX8_isOffered_9 : decode cX8_isOffered 9 = .ok (.getfield 123, 3) := by decide +kernel
theorem dX8_isOffered_12 : decode cX8_isOffered 12 = .ok (.iload_n 1, 1) := by decide +kernel
theorem dX8_isOffered_13 : decode cX8_isOffered 13 = .ok (.invokevirtual 126, 3) := by decide +kernel
theorem dX8_isOffered_16 : decode cX8_isOffered 16 = .ok (.iconst (-1), 1) := by decide +kernel
theorem dX8_isOffered_17 : decode cX8_isOffered 17 = .ok (.if_icmp .eq 7, 3) := by decide +kernel
theorem dX8_isOffered_20 : decode cX8_isOffered 20 = .ok (.iconst 1, 1) := by decide +kernel
theorem dX8_isOffered_21 : decode cX8_isOffered 21 = .ok (.goto 4, 3) := by decide +kernel
theorem dX8_isOffered_24 : decode cX8_isOffered 24 = .ok (.iconst 0, 1) := by decide +kernel
theorem dX8_isOffered_25 : decode cX8_isOffered 25 = .ok (.ireturn, 1) := by decide +kernel
theorem dX8_placeBid_0 : decode cX8_placeBid 0 = .ok (.aload_n 0, 1) := by decide +kernel
theorem dX8_placeBid_1 : decode cX8_placeBid 1 = .ok (.bipush 98, 2) := by decide +kernel
theorem dX8_placeBid_3 : decode cX8_placeBid 3 = .ok (.iload_n 1, 1) := by decide +kernel
theorem dX8_placeBid_4 : decode cX8_placeBid 4 = .ok (.iload_n 2, 1) := by decide +kernel
theorem dX8_placeBid_5 : decode cX8_placeBid 5 = .ok (.iload_n 3, 1) := by decide +kernel
theorem dX8_placeBid_6 : decode cX8_placeBid 6 = .ok (.invokevirtual 60, 3) := by decide +kernel
theorem dX8_placeBid_9 : decode cX8_placeBid 9 = .ok (.ireturn, 1) := by decide +kernel
theorem dX8_placeOffer_0 : decode cX8_placeOffer 0 = .ok (.aload_n 0, 1) := by decide +kernel
theorem dX8_placeOffer_1 : decode cX8_placeOffer 1 = .ok (.bipush 111, 2) := by decide +kernel
theorem dX8_placeOffer_3 : decode cX8_placeOffer 3 = .ok (.iload_n 1, 1) := by decide +kernel
theorem dX8_placeOffer_4 : decode cX8_placeOffer 4 = .ok (.iload_n 2, 1) := by decide +kernel
theorem dX8_placeOffer_5 : decode cX8_placeOffer 5 = .ok (.iconst 0, 1) := by decide +kernel
theorem dX8_placeOffer_6 : decode cX8_placeOffer 6 = .ok (.invokevirtual 60, 3) := by decide +kernel
theorem dX8_placeOffer_9 : decode cX8_placeOffer 9 = .ok (.ireturn, 1) := by decide +kernel
theorem dX8_cancelBid_0 : decode cX8_cancelBid 0 = .ok (.aload_n 0, 1) := by decide +kernel
theorem dX8_cancelBid_1 : decode cX8_cancelBid 1 = .ok (.bipush 120, 2) := by decide +kernel
theorem dX8_cancelBid_3 : decode cX8_cancelBid 3 = .ok (.iload_n 1, 1) := by decide +kernel
theorem dX8_cancelBid_4 : decode cX8_cancelBid 4 = .ok (.iconst 0, 1) := by decide +kernel
theorem dX8_cancelBid_5 : decode cX8_cancelBid 5 = .ok (.iconst 0, 1) := by decide +kernel
theorem dX8_cancelBid_6 : decode cX8_cancelBid 6 = .ok (.invokevirtual 60, 3) := by decide +kernel
theorem dX8_cancelBid_9 : decode cX8_cancelBid 9 = .ok (.ireturn, 1) := by decide +kernel
theorem dX8_cancelOffer_0 : decode cX8_cancelOffer 0 = .ok (.aload_n 0, 1) := by decide +kernel
theorem dX8_cancelOffer_1 : decode cX8_cancelOffer 1 = .ok (.bipush 121, 2) := by decide +kernel
theorem dX8_cancelOffer_3 : decode cX8_cancelOffer 3 = .ok (.iload_n 1, 1) := by decide +kernel
theorem dX8_cancelOffer_4 : decode cX8_cancelOffer 4 = .ok (.iconst 0, 1) := by decide +kernel
theorem dX8_cancelOffer_5 : decode cX8_cancelOffer 5 = .ok (.iconst 0, 1) := by decide +kernel
theorem dX8_cancelOffer_6 : decode cX8_cancelOffer 6 = .ok (.invokevirtual 60, 3) := by decide +kernel
theorem dX8_cancelOffer_9 : decode cX8_cancelOffer 9 = .ok (.ireturn, 1) := by decide +kernel
theorem dX8_bidCount_0 : decode cX8_bidCount 0 = .ok (.aload_n 0, 1) := by decide +kernel
theorem dX8_bidCount_1 : decode cX8_bidCount 1 = .ok (.getfield 10, 3) := by decide +kernel
theorem dX8_bidCount_4 : decode cX8_bidCount 4 = .ok (.getfield 81, 3) := by decide +kernel
theorem dX8_bidCount_7 : decode cX8_bidCount 7 = .ok (.getfield 129, 3) := by decide +kernel
theorem dX8_bidCount_10 : decode cX8_bidCount 10 = .ok (.ireturn, 1) := by decide +kernel
theorem dX8_offerCount_0 : decode cX8_offerCount 0 = .ok (.aload_n 0, 1) := by decide +kernel
theorem dX8_offerCount_1 : decode cX8_offerCount 1 = .ok (.getfield 10, 3) := by decide +kernel
theorem dX8_offerCount_4 : decode cX8_offerCount 4 = .ok (.getfield 123, 3) := by decide +kernel
theorem dX8_offerCount_7 : decode cX8_offerCount 7 = .ok (.getfield 129, 3) := by decide +kernel
theorem dX8_offerCount_10 : decode cX8_offerCount 10 = .ok (.ireturn, 1) := by decide +kernel
theorem dX8_bidAt_0 : decode cX8_bidAt 0 = .ok (.aload_n 0, 1) := by decide +kernel
theorem dX8_bidAt_1 : decode cX8_bidAt 1 = .ok (.getfield 10, 3) := by decide +kernel
theorem dX8_bidAt_4 : decode cX8_bidAt 4 = .ok (.getfield 81, 3) := by decide +kernel
theorem dX8_bidAt_7 : decode cX8_bidAt 7 = .ok (.iload_n 1, 1) := by decide +kernel
theorem dX8_bidAt_8 : decode cX8_bidAt 8 = .ok (.invokestatic 132, 3) := by decide +kernel
theorem dX8_bidAt_11 : decode cX8_bidAt 11 = .ok (.ireturn, 1) := by decide +kernel
theorem dX8_offerAt_0 : decode cX8_offerAt 0 = .ok (.aload_n 0, 1) := by decide +kernel
theorem dX8_offerAt_1 : decode cX8_offerAt 1 = .ok (.getfield 10, 3) := by decide +kernel
theorem dX8_offerAt_4 : decode cX8_offerAt 4 = .ok (.getfield 123, 3) := by decide +kernel
theorem dX8_offerAt_7 : decode cX8_offerAt 7 = .ok (.iload_n 1, 1) := by decide +kernel
theorem dX8_offerAt_8 : decode cX8_offerAt 8 = .ok (.invokestatic 132, 3) := by decide +kernel
theorem dX8_offerAt_11 : decode cX8_offerAt 11 = .ok (.ireturn, 1) := by decide +kernel
theorem dX8_shipOfBid_0 : decode cX8_shipOfBid 0 = .ok (.aload_n 0, 1) := by decide +kernel
theorem dX8_shipOfBid_1 : decode cX8_shipOfBid 1 = .ok (.getfield 10, 3) := by decide +kernel
theorem dX8_shipOfBid_4 : decode cX8_shipOfBid 4 = .ok (.getfield 81, 3) := by decide +kernel
theorem dX8_shipOfBid_7 : decode cX8_shipOfBid 7 = .ok (.getfield 136, 3) := by decide +kernel
theorem dX8_shipOfBid_10 : decode cX8_shipOfBid 10 = .ok (.aload_n 0, 1) := by decide +kernel
theorem dX8_shipOfBid_11 : decode cX8_shipOfBid 11 = .ok (.getfield 10, 3) := by decide +kernel
theorem dX8_shipOfBid_14 : decode cX8_shipOfBid 14 = .ok (.getfield 81, 3) := by decide +kernel
theorem dX8_shipOfBid_17 : decode cX8_shipOfBid 17 = .ok (.iload_n 1, 1) := by decide +kernel
theorem dX8_shipOfBid_18 : decode cX8_shipOfBid 18 = .ok (.invokestatic 139, 3) := by decide +kernel
theorem dX8_shipOfBid_21 : decode cX8_shipOfBid 21 = .ok (.iaload, 1) := by decide +kernel
theorem dX8_shipOfBid_22 : decode cX8_shipOfBid 22 = .ok (.ireturn, 1) := by decide +kernel
theorem dX8_gradeOfBid_0 : decode cX8_gradeOfBid 0 = .ok (.aload_n 0, 1) := by decide +kernel
theorem dX8_gradeOfBid_1 : decode cX8_gradeOfBid 1 = .ok (.getfield 10, 3) := by decide +kernel
theorem dX8_gradeOfBid_4 : decode cX8_gradeOfBid 4 = .ok (.getfield 81, 3) := by decide +kernel
theorem dX8_gradeOfBid_7 : decode cX8_gradeOfBid 7 = .ok (.getfield 142, 3) := by decide +kernel
theorem dX8_gradeOfBid_10 : decode cX8_gradeOfBid 10 = .ok (.aload_n 0, 1) := by decide +kernel
theorem dX8_gradeOfBid_11 : decode cX8_gradeOfBid 11 = .ok (.getfield 10, 3) := by decide +kernel
theorem dX8_gradeOfBid_14 : decode cX8_gradeOfBid 14 = .ok (.getfield 81, 3) := by decide +kernel
theorem dX8_gradeOfBid_17 : decode cX8_gradeOfBid 17 = .ok (.iload_n 1, 1) := by decide +kernel
theorem dX8_gradeOfBid_18 : decode cX8_gradeOfBid 18 = .ok (.invokestatic 139, 3) := by decide +kernel
theorem dX8_gradeOfBid_21 : decode cX8_gradeOfBid 21 = .ok (.iaload, 1) := by decide +kernel
theorem dX8_gradeOfBid_22 : decode cX8_gradeOfBid 22 = .ok (.ireturn, 1) := by decide +kernel
theorem dX8_priceOfBid_0 : decode cX8_priceOfBid 0 = .ok (.aload_n 0, 1) := by decide +kernel
theorem dX8_priceOfBid_1 : decode cX8_priceOfBid 1 = .ok (.getfield 10, 3) := by decide +kernel
theorem dX8_priceOfBid_4 : decode cX8_priceOfBid 4 = .ok (.getfield 81, 3) := by decide +kernel
theorem dX8_priceOfBid_7 : decode cX8_priceOfBid 7 = .ok (.getfield 143, 3) := by decide +kernel
theorem dX8_priceOfBid_10 : decode cX8_priceOfBid 10 = .ok (.aload_n 0, 1) := by decide +kernel
theorem dX8_priceOfBid_11 : decode cX8_priceOfBid 11 = .ok (.getfield 10, 3) := by decide +kernel
theorem dX8_priceOfBid_14 : decode cX8_priceOfBid 14 = .ok (.getfield 81, 3) := by decide +kernel
theorem dX8_priceOfBid_17 : decode cX8_priceOfBid 17 = .ok (.iload_n 1, 1) := by decide +kernel
theorem dX8_priceOfBid_18 : decode cX8_priceOfBid 18 = .ok (.invokestatic 139, 3) := by decide +kernel
theorem dX8_priceOfBid_21 : decode cX8_priceOfBid 21 = .ok (.iaload, 1) := by decide +kernel
theorem dX8_priceOfBid_22 : decode cX8_priceOfBid 22 = .ok (.ireturn, 1) := by decide +kernel
theorem dX8_ageOfBid_0 : decode cX8_ageOfBid 0 = .ok (.aload_n 0, 1) := by decide +kernel
theorem dX8_ageOfBid_1 : decode cX8_ageOfBid 1 = .ok (.getfield 10, 3) := by decide +kernel
theorem dX8_ageOfBid_4 : decode cX8_ageOfBid 4 = .ok (.getfield 81, 3) := by decide +kernel
theorem dX8_ageOfBid_7 : decode cX8_ageOfBid 7 = .ok (.getfield 146, 3) := by decide +kernel
theorem dX8_ageOfBid_10 : decode cX8_ageOfBid 10 = .ok (.aload_n 0, 1) := by decide +kernel
theorem dX8_ageOfBid_11 : decode cX8_ageOfBid 11 = .ok (.getfield 10, 3) := by decide +kernel
theorem dX8_ageOfBid_14 : decode cX8_ageOfBid 14 = .ok (.getfield 81, 3) := by decide +kernel
theorem dX8_ageOfBid_17 : decode cX8_ageOfBid 17 = .ok (.iload_n 1, 1) := by decide +kernel
theorem dX8_ageOfBid_18 : decode cX8_ageOfBid 18 = .ok (.invokestatic 139, 3) := by decide +kernel
theorem dX8_ageOfBid_21 : decode cX8_ageOfBid 21 = .ok (.iaload, 1) := by decide +kernel
theorem dX8_ageOfBid_22 : decode cX8_ageOfBid 22 = .ok (.ireturn, 1) := by decide +kernel
theorem dX8_barnacleOfOffer_0 : decode cX8_barnacleOfOffer 0 = .ok (.aload_n 0, 1) := by decide +kernel
theorem dX8_barnacleOfOffer_1 : decode cX8_barnacleOfOffer 1 = .ok (.getfield 10, 3) := by decide +kernel
theorem dX8_barnacleOfOffer_4 : decode cX8_barnacleOfOffer 4 = .ok (.getfield 123, 3) := by decide +kernel
theorem dX8_barnacleOfOffer_7 : decode cX8_barnacleOfOffer 7 = .ok (.getfield 136, 3) := by decide +kernel
theorem dX8_barnacleOfOffer_10 : decode cX8_barnacleOfOffer 10 = .ok (.aload_n 0, 1) := by decide +kernel
theorem dX8_barnacleOfOffer_11 : decode cX8_barnacleOfOffer 11 = .ok (.getfield 10, 3) := by decide +kernel
theorem dX8_barnacleOfOffer_14 : decode cX8_barnacleOfOffer 14 = .ok (.getfield 123, 3) := by decide +kernel
theorem dX8_barnacleOfOffer_17 : decode cX8_barnacleOfOffer 17 = .ok (.iload_n 1, 1) := by decide +kernel
theorem dX8_barnacleOfOffer_18 : decode cX8_barnacleOfOffer 18 = .ok (.invokestatic 139, 3) := by decide +kernel
theorem dX8_barnacleOfOffer_21 : decode cX8_barnacleOfOffer 21 = .ok (.iaload, 1) := by decide +kernel
theorem dX8_barnacleOfOffer_22 : decode cX8_barnacleOfOffer 22 = .ok (.ireturn, 1) := by decide +kernel
theorem dX8_priceOfOffer_0 : decode cX8_priceOfOffer 0 = .ok (.aload_n 0, 1) := by decide +kernel
theorem dX8_priceOfOffer_1 : decode cX8_priceOfOffer 1 = .ok (.getfield 10, 3) := by decide +kernel
theorem dX8_priceOfOffer_4 : decode cX8_priceOfOffer 4 = .ok (.getfield 123, 3) := by decide +kernel
theorem dX8_priceOfOffer_7 : decode cX8_priceOfOffer 7 = .ok (.getfield 143, 3) := by decide +kernel
theorem dX8_priceOfOffer_10 : decode cX8_priceOfOffer 10 = .ok (.aload_n 0, 1) := by decide +kernel
theorem dX8_priceOfOffer_11 : decode cX8_priceOfOffer 11 = .ok (.getfield 10, 3) := by decide +kernel
theorem dX8_priceOfOffer_14 : decode cX8_priceOfOffer 14 = .ok (.getfield 123, 3) := by decide +kernel
theorem dX8_priceOfOffer_17 : decode cX8_priceOfOffer 17 = .ok (.iload_n 1, 1) := by decide +kernel
theorem dX8_priceOfOffer_18 : decode cX8_priceOfOffer 18 = .ok (.invokestatic 139, 3) := by decide +kernel
theorem dX8_priceOfOffer_21 : decode cX8_priceOfOffer 21 = .ok (.iaload, 1) := by decide +kernel
theorem dX8_priceOfOffer_22 : decode cX8_priceOfOffer 22 = .ok (.ireturn, 1) := by decide +kernel
theorem dX8_ageOfOffer_0 : decode cX8_ageOfOffer 0 = .ok (.aload_n 0, 1) := by decide +kernel
theorem dX8_ageOfOffer_1 : decode cX8_ageOfOffer 1 = .ok (.getfield 10, 3) := by decide +kernel
theorem dX8_ageOfOffer_4 : decode cX8_ageOfOffer 4 = .ok (.getfield 123, 3) := by decide +kernel
theorem dX8_ageOfOffer_7 : decode cX8_ageOfOffer 7 = .ok (.getfield 146, 3) := by decide +kernel
theorem dX8_ageOfOffer_10 : decode cX8_ageOfOffer 10 = .ok (.aload_n 0, 1) := by decide +kernel
theorem dX8_ageOfOffer_11 : decode cX8_ageOfOffer 11 = .ok (.getfield 10, 3) := by decide +kernel
theorem dX8_ageOfOffer_14 : decode cX8_ageOfOffer 14 = .ok (.getfield 123, 3) := by decide +kernel
theorem dX8_ageOfOffer_17 : decode cX8_ageOfOffer 17 = .ok (.iload_n 1, 1) := by decide +kernel
theorem dX8_ageOfOffer_18 : decode cX8_ageOfOffer 18 = .ok (.invokestatic 139, 3) := by decide +kernel
theorem dX8_ageOfOffer_21 : decode cX8_ageOfOffer 21 = .ok (.iaload, 1) := by decide +kernel
theorem dX8_ageOfOffer_22 : decode cX8_ageOfOffer 22 = .ok (.ireturn, 1) := by decide +kernel
theorem dX8_matchFor_0 : decode cX8_matchFor 0 = .ok (.aload_n 0, 1) := by decide +kernel
theorem dX8_matchFor_1 : decode cX8_matchFor 1 = .ok (.aload_n 0, 1) := by decide +kernel
theorem dX8_matchFor_2 : decode cX8_matchFor 2 = .ok (.getfield 10, 3) := by decide +kernel
theorem dX8_matchFor_5 : decode cX8_matchFor 5 = .ok (.aload_n 0, 1) := by decide +kernel
theorem dX8_matchFor_6 : decode cX8_matchFor 6 = .ok (.getfield 10, 3) := by decide +kernel
theorem dX8_matchFor_9 : decode cX8_matchFor 9 = .ok (.getfield 81, 3) := by decide +kernel
theorem dX8_matchFor_12 : decode cX8_matchFor 12 = .ok (.iload_n 1, 1) := by decide +kernel
theorem dX8_matchFor_13 : decode cX8_matchFor 13 = .ok (.invokestatic 139, 3) := by decide +kernel
theorem dX8_matchFor_16 : decode cX8_matchFor 16 = .ok (.invokevirtual 149, 3) := by decide +kernel
theorem dX8_matchFor_19 : decode cX8_matchFor 19 = .ok (.invokevirtual 152, 3) := by decide +kernel
theorem dX8_matchFor_22 : decode cX8_matchFor 22 = .ok (.ireturn, 1) := by decide +kernel
theorem dX8_matchByBarnacles_0 : decode cX8_matchByBarnacles 0 = .ok (.aload_n 0, 1) := by decide +kernel
theorem dX8_matchByBarnacles_1 : decode cX8_matchByBarnacles 1 = .ok (.aload_n 0, 1) := by decide +kernel
theorem dX8_matchByBarnacles_2 : decode cX8_matchByBarnacles 2 = .ok (.getfield 10, 3) := by decide +kernel
theorem dX8_matchByBarnacles_5 : decode cX8_matchByBarnacles 5 = .ok (.aload_n 0, 1) := by decide +kernel
theorem dX8_matchByBarnacles_6 : decode cX8_matchByBarnacles 6 = .ok (.getfield 10, 3) := by decide +kernel
theorem dX8_matchByBarnacles_9 : decode cX8_matchByBarnacles 9 = .ok (.getfield 81, 3) := by decide +kernel
theorem dX8_matchByBarnacles_12 : decode cX8_matchByBarnacles 12 = .ok (.iload_n 1, 1) := by decide +kernel
theorem dX8_matchByBarnacles_13 : decode cX8_matchByBarnacles 13 = .ok (.invokestatic 139, 3) := by decide +kernel
theorem dX8_matchByBarnacles_16 : decode cX8_matchByBarnacles 16 = .ok (.invokevirtual 155, 3) := by decide +kernel
theorem dX8_matchByBarnacles_19 : decode cX8_matchByBarnacles 19 = .ok (.invokevirtual 152, 3) := by decide +kernel
theorem dX8_matchByBarnacles_22 : decode cX8_matchByBarnacles 22 = .ok (.ireturn, 1) := by decide +kernel
theorem dX8_spread_0 : decode cX8_spread 0 = .ok (.aload_n 0, 1) := by decide +kernel
theorem dX8_spread_1 : decode cX8_spread 1 = .ok (.getfield 10, 3) := by decide +kernel
theorem dX8_spread_4 : decode cX8_spread 4 = .ok (.getfield 81, 3) := by decide +kernel
theorem dX8_spread_7 : decode cX8_spread 7 = .ok (.getfield 129, 3) := by decide +kernel
theorem dX8_spread_10 : decode cX8_spread 10 = .ok (.ifCond .eq 16, 3) := by decide +kernel
theorem dX8_spread_13 : decode cX8_spread 13 = .ok (.aload_n 0, 1) := by decide +kernel
theorem dX8_spread_14 : decode cX8_spread 14 = .ok (.getfield 10, 3) := by decide +kernel
theorem dX8_spread_17 : decode cX8_spread 17 = .ok (.getfield 123, 3) := by decide +kernel
theorem dX8_spread_20 : decode cX8_spread 20 = .ok (.getfield 129, 3) := by decide +kernel
theorem dX8_spread_23 : decode cX8_spread 23 = .ok (.ifCond .ne 13, 3) := by decide +kernel
theorem dX8_spread_26 : decode cX8_spread 26 = .ok (.new 104, 3) := by decide +kernel
theorem dX8_spread_29 : decode cX8_spread 29 = .ok (.dup, 1) := by decide +kernel
theorem dX8_spread_30 : decode cX8_spread 30 = .ok (.ldc 158, 2) := by decide +kernel
theorem dX8_spread_32 : decode cX8_spread 32 = .ok (.invokespecial 108, 3) := by decide +kernel
theorem dX8_spread_35 : decode cX8_spread 35 = .ok (.athrow, 1) := by decide +kernel
theorem dX8_spread_36 : decode cX8_spread 36 = .ok (.aload_n 0, 1) := by decide +kernel
theorem dX8_spread_37 : decode cX8_spread 37 = .ok (.getfield 10, 3) := by decide +kernel
theorem dX8_spread_40 : decode cX8_spread 40 = .ok (.getfield 81, 3) := by decide +kernel
theorem dX8_spread_43 : decode cX8_spread 43 = .ok (.getfield 143, 3) := by decide +kernel
theorem dX8_spread_46 : decode cX8_spread 46 = .ok (.iconst 0, 1) := by decide +kernel
theorem dX8_spread_47 : decode cX8_spread 47 = .ok (.iaload, 1) := by decide +kernel
theorem dX8_spread_48 : decode cX8_spread 48 = .ok (.aload_n 0, 1) := by decide +kernel
theorem dX8_spread_49 : decode cX8_spread 49 = .ok (.getfield 10, 3) := by decide +kernel
theorem dX8_spread_52 : decode cX8_spread 52 = .ok (.getfield 123, 3) := by decide +kernel
theorem dX8_spread_55 : decode cX8_spread 55 = .ok (.getfield 143, 3) := by decide +kernel
theorem dX8_spread_58 : decode cX8_spread 58 = .ok (.iconst 0, 1) := by decide +kernel
theorem dX8_spread_59 : decode cX8_spread 59 = .ok (.iaload, 1) := by decide +kernel
theorem dX8_spread_60 : decode cX8_spread 60 = .ok (.isub, 1) := by decide +kernel
theorem dX8_spread_61 : decode cX8_spread 61 = .ok (.ireturn, 1) := by decide +kernel
theorem dX8_passTide_0 : decode cX8_passTide 0 = .ok (.aload_n 0, 1) := by decide +kernel
theorem dX8_passTide_1 : decode cX8_passTide 1 = .ok (.bipush 116, 2) := by decide +kernel
theorem dX8_passTide_3 : decode cX8_passTide 3 = .ok (.iconst 0, 1) := by decide +kernel
theorem dX8_passTide_4 : decode cX8_passTide 4 = .ok (.iconst 0, 1) := by decide +kernel
theorem dX8_passTide_5 : decode cX8_passTide 5 = .ok (.iconst 0, 1) := by decide +kernel
theorem dX8_passTide_6 : decode cX8_passTide 6 = .ok (.invokevirtual 60, 3) := by decide +kernel
theorem dX8_passTide_9 : decode cX8_passTide 9 = .ok (.ireturn, 1) := by decide +kernel
theorem dX8_wouldTrade_0 : decode cX8_wouldTrade 0 = .ok (.aload_n 0, 1) := by decide +kernel
theorem dX8_wouldTrade_1 : decode cX8_wouldTrade 1 = .ok (.getfield 16, 3) := by decide +kernel
theorem dX8_wouldTrade_4 : decode cX8_wouldTrade 4 = .ok (.aload_n 0, 1) := by decide +kernel
theorem dX8_wouldTrade_5 : decode cX8_wouldTrade 5 = .ok (.getfield 10, 3) := by decide +kernel
theorem dX8_wouldTrade_8 : decode cX8_wouldTrade 8 = .ok (.invokevirtual 160, 3) := by decide +kernel
theorem dX8_wouldTrade_11 : decode cX8_wouldTrade 11 = .ok (.aload_n 0, 1) := by decide +kernel
theorem dX8_wouldTrade_12 : decode cX8_wouldTrade 12 = .ok (.getfield 16, 3) := by decide +kernel
theorem dX8_wouldTrade_15 : decode cX8_wouldTrade 15 = .ok (.invokevirtual 164, 3) := by decide +kernel
theorem dX8_wouldTrade_18 : decode cX8_wouldTrade 18 = .ok (.ireturn, 1) := by decide +kernel
theorem dX8_setFee_0 : decode cX8_setFee 0 = .ok (.aload_n 0, 1) := by decide +kernel
theorem dX8_setFee_1 : decode cX8_setFee 1 = .ok (.bipush 102, 2) := by decide +kernel
theorem dX8_setFee_3 : decode cX8_setFee 3 = .ok (.iload_n 1, 1) := by decide +kernel
theorem dX8_setFee_4 : decode cX8_setFee 4 = .ok (.iconst 0, 1) := by decide +kernel
theorem dX8_setFee_5 : decode cX8_setFee 5 = .ok (.iconst 0, 1) := by decide +kernel
theorem dX8_setFee_6 : decode cX8_setFee 6 = .ok (.invokevirtual 60, 3) := by decide +kernel
theorem dX8_setFee_9 : decode cX8_setFee 9 = .ok (.ireturn, 1) := by decide +kernel
theorem dX8_fee_0 : decode cX8_fee 0 = .ok (.aload_n 0, 1) := by decide +kernel
theorem dX8_fee_1 : decode cX8_fee 1 = .ok (.getfield 10, 3) := by decide +kernel
theorem dX8_fee_4 : decode cX8_fee 4 = .ok (.getfield 168, 3) := by decide +kernel
theorem dX8_fee_7 : decode cX8_fee 7 = .ok (.ireturn, 1) := by decide +kernel
theorem dX8_tideCount_0 : decode cX8_tideCount 0 = .ok (.aload_n 0, 1) := by decide +kernel
theorem dX8_tideCount_1 : decode cX8_tideCount 1 = .ok (.getfield 10, 3) := by decide +kernel
theorem dX8_tideCount_4 : decode cX8_tideCount 4 = .ok (.getfield 171, 3) := by decide +kernel
theorem dX8_tideCount_7 : decode cX8_tideCount 7 = .ok (.ireturn, 1) := by decide +kernel
theorem dX8_buyerOf_0 : decode cX8_buyerOf 0 = .ok (.aload_n 0, 1) := by decide +kernel
theorem dX8_buyerOf_1 : decode cX8_buyerOf 1 = .ok (.iload_n 1, 1) := by decide +kernel
theorem dX8_buyerOf_2 : decode cX8_buyerOf 2 = .ok (.invokevirtual 174, 3) := by decide +kernel
theorem dX8_buyerOf_5 : decode cX8_buyerOf 5 = .ok (.aload_n 0, 1) := by decide +kernel
theorem dX8_buyerOf_6 : decode cX8_buyerOf 6 = .ok (.getfield 10, 3) := by decide +kernel
theorem dX8_buyerOf_9 : decode cX8_buyerOf 9 = .ok (.getfield 177, 3) := by decide +kernel
theorem dX8_buyerOf_12 : decode cX8_buyerOf 12 = .ok (.getfield 181, 3) := by decide +kernel
theorem dX8_buyerOf_15 : decode cX8_buyerOf 15 = .ok (.iload_n 1, 1) := by decide +kernel
theorem dX8_buyerOf_16 : decode cX8_buyerOf 16 = .ok (.iaload, 1) := by decide +kernel
theorem dX8_buyerOf_17 : decode cX8_buyerOf 17 = .ok (.ireturn, 1) := by decide +kernel
theorem dX8_sellerOf_0 : decode cX8_sellerOf 0 = .ok (.aload_n 0, 1) := by decide +kernel
theorem dX8_sellerOf_1 : decode cX8_sellerOf 1 = .ok (.iload_n 1, 1) := by decide +kernel
theorem dX8_sellerOf_2 : decode cX8_sellerOf 2 = .ok (.invokevirtual 174, 3) := by decide +kernel
theorem dX8_sellerOf_5 : decode cX8_sellerOf 5 = .ok (.aload_n 0, 1) := by decide +kernel
theorem dX8_sellerOf_6 : decode cX8_sellerOf 6 = .ok (.getfield 10, 3) := by decide +kernel
theorem dX8_sellerOf_9 : decode cX8_sellerOf 9 = .ok (.getfield 177, 3) := by decide +kernel
theorem dX8_sellerOf_12 : decode cX8_sellerOf 12 = .ok (.getfield 186, 3) := by decide +kernel
theorem dX8_sellerOf_15 : decode cX8_sellerOf 15 = .ok (.iload_n 1, 1) := by decide +kernel
theorem dX8_sellerOf_16 : decode cX8_sellerOf 16 = .ok (.iaload, 1) := by decide +kernel
theorem dX8_sellerOf_17 : decode cX8_sellerOf 17 = .ok (.ireturn, 1) := by decide +kernel
theorem dX8_barnacleOf_0 : decode cX8_barnacleOf 0 = .ok (.aload_n 0, 1) := by decide +kernel
theorem dX8_barnacleOf_1 : decode cX8_barnacleOf 1 = .ok (.iload_n 1, 1) := by decide +kernel
theorem dX8_barnacleOf_2 : decode cX8_barnacleOf 2 = .ok (.invokevirtual 174, 3) := by decide +kernel
theorem dX8_barnacleOf_5 : decode cX8_barnacleOf 5 = .ok (.aload_n 0, 1) := by decide +kernel
theorem dX8_barnacleOf_6 : decode cX8_barnacleOf 6 = .ok (.getfield 10, 3) := by decide +kernel
theorem dX8_barnacleOf_9 : decode cX8_barnacleOf 9 = .ok (.getfield 177, 3) := by decide +kernel
theorem dX8_barnacleOf_12 : decode cX8_barnacleOf 12 = .ok (.getfield 189, 3) := by decide +kernel
theorem dX8_barnacleOf_15 : decode cX8_barnacleOf 15 = .ok (.iload_n 1, 1) := by decide +kernel
theorem dX8_barnacleOf_16 : decode cX8_barnacleOf 16 = .ok (.iaload, 1) := by decide +kernel
theorem dX8_barnacleOf_17 : decode cX8_barnacleOf 17 = .ok (.ireturn, 1) := by decide +kernel
theorem dX8_priceOf_0 : decode cX8_priceOf 0 = .ok (.aload_n 0, 1) := by decide +kernel
theorem dX8_priceOf_1 : decode cX8_priceOf 1 = .ok (.iload_n 1, 1) := by decide +kernel
theorem dX8_priceOf_2 : decode cX8_priceOf 2 = .ok (.invokevirtual 174, 3) := by decide +kernel
theorem dX8_priceOf_5 : decode cX8_priceOf 5 = .ok (.aload_n 0, 1) := by decide +kernel
theorem dX8_priceOf_6 : decode cX8_priceOf 6 = .ok (.getfield 10, 3) := by decide +kernel
theorem dX8_priceOf_9 : decode cX8_priceOf 9 = .ok (.getfield 177, 3) := by decide +kernel
theorem dX8_priceOf_12 : decode cX8_priceOf 12 = .ok (.getfield 192, 3) := by decide +kernel
theorem dX8_priceOf_15 : decode cX8_priceOf 15 = .ok (.iload_n 1, 1) := by decide +kernel
theorem dX8_priceOf_16 : decode cX8_priceOf 16 = .ok (.iaload, 1) := by decide +kernel
theorem dX8_priceOf_17 : decode cX8_priceOf 17 = .ok (.ireturn, 1) := by decide +kernel
theorem dX8_tradeCount_0 : decode cX8_tradeCount 0 = .ok (.aload_n 0, 1) := by decide +kernel
theorem dX8_tradeCount_1 : decode cX8_tradeCount 1 = .ok (.getfield 10, 3) := by decide +kernel
theorem dX8_tradeCount_4 : decode cX8_tradeCount 4 = .ok (.getfield 177, 3) := by decide +kernel
theorem dX8_tradeCount_7 : decode cX8_tradeCount 7 = .ok (.getfield 193, 3) := by decide +kernel
theorem dX8_tradeCount_10 : decode cX8_tradeCount 10 = .ok (.ireturn, 1) := by decide +kernel
theorem dX8_turnover_0 : decode cX8_turnover 0 = .ok (.aload_n 0, 1) := by decide +kernel
theorem dX8_turnover_1 : decode cX8_turnover 1 = .ok (.getfield 10, 3) := by decide +kernel
theorem dX8_turnover_4 : decode cX8_turnover 4 = .ok (.getfield 177, 3) := by decide +kernel
theorem dX8_turnover_7 : decode cX8_turnover 7 = .ok (.getfield 196, 3) := by decide +kernel
theorem dX8_turnover_10 : decode cX8_turnover 10 = .ok (.ireturn, 1) := by decide +kernel
theorem dX8_exchangeCoins_0 : decode cX8_exchangeCoins 0 = .ok (.aload_n 0, 1) := by decide +kernel
theorem dX8_exchangeCoins_1 : decode cX8_exchangeCoins 1 = .ok (.getfield 10, 3) := by decide +kernel
theorem dX8_exchangeCoins_4 : decode cX8_exchangeCoins 4 = .ok (.getfield 199, 3) := by decide +kernel
theorem dX8_exchangeCoins_7 : decode cX8_exchangeCoins 7 = .ok (.ireturn, 1) := by decide +kernel
theorem dX8_expiredCount_0 : decode cX8_expiredCount 0 = .ok (.aload_n 0, 1) := by decide +kernel
theorem dX8_expiredCount_1 : decode cX8_expiredCount 1 = .ok (.getfield 10, 3) := by decide +kernel
theorem dX8_expiredCount_4 : decode cX8_expiredCount 4 = .ok (.getfield 202, 3) := by decide +kernel
theorem dX8_expiredCount_7 : decode cX8_expiredCount 7 = .ok (.ireturn, 1) := by decide +kernel
theorem dX8_allCoins_0 : decode cX8_allCoins 0 = .ok (.aload_n 0, 1) := by decide +kernel
theorem dX8_allCoins_1 : decode cX8_allCoins 1 = .ok (.getfield 10, 3) := by decide +kernel
theorem dX8_allCoins_4 : decode cX8_allCoins 4 = .ok (.invokevirtual 205, 3) := by decide +kernel
theorem dX8_allCoins_7 : decode cX8_allCoins 7 = .ok (.ireturn, 1) := by decide +kernel
theorem dX8_allCoinsGiven_0 : decode cX8_allCoinsGiven 0 = .ok (.aload_n 0, 1) := by decide +kernel
theorem dX8_allCoinsGiven_1 : decode cX8_allCoinsGiven 1 = .ok (.getfield 10, 3) := by decide +kernel
theorem dX8_allCoinsGiven_4 : decode cX8_allCoinsGiven 4 = .ok (.getfield 208, 3) := by decide +kernel
theorem dX8_allCoinsGiven_7 : decode cX8_allCoinsGiven 7 = .ok (.ireturn, 1) := by decide +kernel
theorem dX8_shipByWealth_0 : decode cX8_shipByWealth 0 = .ok (.aload_n 0, 1) := by decide +kernel
theorem dX8_shipByWealth_1 : decode cX8_shipByWealth 1 = .ok (.getfield 10, 3) := by decide +kernel
theorem dX8_shipByWealth_4 : decode cX8_shipByWealth 4 = .ok (.getfield 64, 3) := by decide +kernel
theorem dX8_shipByWealth_7 : decode cX8_shipByWealth 7 = .ok (.iload_n 1, 1) := by decide +kernel
theorem dX8_shipByWealth_8 : decode cX8_shipByWealth 8 = .ok (.invokevirtual 211, 3) := by decide +kernel
theorem dX8_shipByWealth_11 : decode cX8_shipByWealth 11 = .ok (.istore_n 2, 1) := by decide +kernel
theorem dX8_shipByWealth_12 : decode cX8_shipByWealth 12 = .ok (.iload_n 2, 1) := by decide +kernel
theorem dX8_shipByWealth_13 : decode cX8_shipByWealth 13 = .ok (.iconst (-1), 1) := by decide +kernel
theorem dX8_shipByWealth_14 : decode cX8_shipByWealth 14 = .ok (.if_icmp .ne 13, 3) := by decide +kernel
theorem dX8_shipByWealth_17 : decode cX8_shipByWealth 17 = .ok (.new 104, 3) := by decide +kernel
theorem dX8_shipByWealth_20 : decode cX8_shipByWealth 20 = .ok (.dup, 1) := by decide +kernel
theorem dX8_shipByWealth_21 : decode cX8_shipByWealth 21 = .ok (.ldc 214, 2) := by decide +kernel
theorem dX8_shipByWealth_23 : decode cX8_shipByWealth 23 = .ok (.invokespecial 108, 3) := by decide +kernel
theorem dX8_shipByWealth_26 : decode cX8_shipByWealth 26 = .ok (.athrow, 1) := by decide +kernel
theorem dX8_shipByWealth_27 : decode cX8_shipByWealth 27 = .ok (.iload_n 2, 1) := by decide +kernel
theorem dX8_shipByWealth_28 : decode cX8_shipByWealth 28 = .ok (.ireturn, 1) := by decide +kernel
theorem dX8_meanPrice_0 : decode cX8_meanPrice 0 = .ok (.aload_n 0, 1) := by decide +kernel
theorem dX8_meanPrice_1 : decode cX8_meanPrice 1 = .ok (.getfield 10, 3) := by decide +kernel
theorem dX8_meanPrice_4 : decode cX8_meanPrice 4 = .ok (.getfield 177, 3) := by decide +kernel
theorem dX8_meanPrice_7 : decode cX8_meanPrice 7 = .ok (.getfield 193, 3) := by decide +kernel
theorem dX8_meanPrice_10 : decode cX8_meanPrice 10 = .ok (.istore_n 1, 1) := by decide +kernel
theorem dX8_meanPrice_11 : decode cX8_meanPrice 11 = .ok (.iload_n 1, 1) := by decide +kernel
theorem dX8_meanPrice_12 : decode cX8_meanPrice 12 = .ok (.ifCond .ne 13, 3) := by decide +kernel
theorem dX8_meanPrice_15 : decode cX8_meanPrice 15 = .ok (.new 216, 3) := by decide +kernel
theorem dX8_meanPrice_18 : decode cX8_meanPrice 18 = .ok (.dup, 1) := by decide +kernel
theorem dX8_meanPrice_19 : decode cX8_meanPrice 19 = .ok (.ldc 218, 2) := by decide +kernel
theorem dX8_meanPrice_21 : decode cX8_meanPrice 21 = .ok (.invokespecial 220, 3) := by decide +kernel
theorem dX8_meanPrice_24 : decode cX8_meanPrice 24 = .ok (.athrow, 1) := by decide +kernel
theorem dX8_meanPrice_25 : decode cX8_meanPrice 25 = .ok (.aload_n 0, 1) := by decide +kernel
theorem dX8_meanPrice_26 : decode cX8_meanPrice 26 = .ok (.getfield 10, 3) := by decide +kernel
theorem dX8_meanPrice_29 : decode cX8_meanPrice 29 = .ok (.getfield 177, 3) := by decide +kernel
theorem dX8_meanPrice_32 : decode cX8_meanPrice 32 = .ok (.getfield 196, 3) := by decide +kernel
theorem dX8_meanPrice_35 : decode cX8_meanPrice 35 = .ok (.i2d, 1) := by decide +kernel
theorem dX8_meanPrice_36 : decode cX8_meanPrice 36 = .ok (.iload_n 1, 1) := by decide +kernel
theorem dX8_meanPrice_37 : decode cX8_meanPrice 37 = .ok (.i2d, 1) := by decide +kernel
theorem dX8_meanPrice_38 : decode cX8_meanPrice 38 = .ok (.ddiv, 1) := by decide +kernel
theorem dX8_meanPrice_39 : decode cX8_meanPrice 39 = .ok (.dreturn, 1) := by decide +kernel
theorem dX8_offeredShare_0 : decode cX8_offeredShare 0 = .ok (.aload_n 0, 1) := by decide +kernel
theorem dX8_offeredShare_1 : decode cX8_offeredShare 1 = .ok (.getfield 10, 3) := by decide +kernel
theorem dX8_offeredShare_4 : decode cX8_offeredShare 4 = .ok (.getfield 64, 3) := by decide +kernel
theorem dX8_offeredShare_7 : decode cX8_offeredShare 7 = .ok (.getfield 111, 3) := by decide +kernel
theorem dX8_offeredShare_10 : decode cX8_offeredShare 10 = .ok (.istore_n 1, 1) := by decide +kernel
theorem dX8_offeredShare_11 : decode cX8_offeredShare 11 = .ok (.iload_n 1, 1) := by decide +kernel
theorem dX8_offeredShare_12 : decode cX8_offeredShare 12 = .ok (.ifCond .ne 13, 3) := by decide +kernel
theorem dX8_offeredShare_15 : decode cX8_offeredShare 15 = .ok (.new 216, 3) := by decide +kernel
theorem dX8_offeredShare_18 : decode cX8_offeredShare 18 = .ok (.dup, 1) := by decide +kernel
theorem dX8_offeredShare_19 : decode cX8_offeredShare 19 = .ok (.ldc 221, 2) := by decide +kernel
theorem dX8_offeredShare_21 : decode cX8_offeredShare 21 = .ok (.invokespecial 220, 3) := by decide +kernel
theorem dX8_offeredShare_24 : decode cX8_offeredShare 24 = .ok (.athrow, 1) := by decide +kernel
theorem dX8_offeredShare_25 : decode cX8_offeredShare 25 = .ok (.aload_n 0, 1) := by decide +kernel
theorem dX8_offeredShare_26 : decode cX8_offeredShare 26 = .ok (.getfield 10, 3) := by decide +kernel
theorem dX8_offeredShare_29 : decode cX8_offeredShare 29 = .ok (.getfield 123, 3) := by decide +kernel
theorem dX8_offeredShare_32 : decode cX8_offeredShare 32 = .ok (.getfield 129, 3) := by decide +kernel
theorem dX8_offeredShare_35 : decode cX8_offeredShare 35 = .ok (.i2f, 1) := by decide +kernel
theorem dX8_offeredShare_36 : decode cX8_offeredShare 36 = .ok (.iload_n 1, 1) := by decide +kernel
theorem dX8_offeredShare_37 : decode cX8_offeredShare 37 = .ok (.i2f, 1) := by decide +kernel
theorem dX8_offeredShare_38 : decode cX8_offeredShare 38 = .ok (.fdiv, 1) := by decide +kernel
theorem dX8_offeredShare_39 : decode cX8_offeredShare 39 = .ok (.freturn, 1) := by decide +kernel
theorem dX8_isConsistent_0 : decode cX8_isConsistent 0 = .ok (.aload_n 0, 1) := by decide +kernel
theorem dX8_isConsistent_1 : decode cX8_isConsistent 1 = .ok (.getfield 10, 3) := by decide +kernel
theorem dX8_isConsistent_4 : decode cX8_isConsistent 4 = .ok (.invokevirtual 205, 3) := by decide +kernel
theorem dX8_isConsistent_7 : decode cX8_isConsistent 7 = .ok (.aload_n 0, 1) := by decide +kernel
theorem dX8_isConsistent_8 : decode cX8_isConsistent 8 = .ok (.getfield 10, 3) := by decide +kernel
theorem dX8_isConsistent_11 : decode cX8_isConsistent 11 = .ok (.getfield 208, 3) := by decide +kernel
theorem dX8_isConsistent_14 : decode cX8_isConsistent 14 = .ok (.if_icmp .ne 27, 3) := by decide +kernel
theorem dX8_isConsistent_17 : decode cX8_isConsistent 17 = .ok (.aload_n 0, 1) := by decide +kernel
theorem dX8_isConsistent_18 : decode cX8_isConsistent 18 = .ok (.getfield 10, 3) := by decide +kernel
theorem dX8_isConsistent_21 : decode cX8_isConsistent 21 = .ok (.invokevirtual 223, 3) := by decide +kernel
theorem dX8_isConsistent_24 : decode cX8_isConsistent 24 = .ok (.ifCond .eq 17, 3) := by decide +kernel
theorem dX8_isConsistent_27 : decode cX8_isConsistent 27 = .ok (.aload_n 0, 1) := by decide +kernel
theorem dX8_isConsistent_28 : decode cX8_isConsistent 28 = .ok (.getfield 10, 3) := by decide +kernel
theorem dX8_isConsistent_31 : decode cX8_isConsistent 31 = .ok (.invokevirtual 227, 3) := by decide +kernel
theorem dX8_isConsistent_34 : decode cX8_isConsistent 34 = .ok (.ifCond .eq 7, 3) := by decide +kernel
theorem dX8_isConsistent_37 : decode cX8_isConsistent 37 = .ok (.iconst 1, 1) := by decide +kernel
theorem dX8_isConsistent_38 : decode cX8_isConsistent 38 = .ok (.goto 4, 3) := by decide +kernel
theorem dX8_isConsistent_41 : decode cX8_isConsistent 41 = .ok (.iconst 0, 1) := by decide +kernel
theorem dX8_isConsistent_42 : decode cX8_isConsistent 42 = .ok (.ireturn, 1) := by decide +kernel
theorem dX8_writeShip_0 : decode cX8_writeShip 0 = .ok (.aload_n 0, 1) := by decide +kernel
theorem dX8_writeShip_1 : decode cX8_writeShip 1 = .ok (.iload_n 1, 1) := by decide +kernel
theorem dX8_writeShip_2 : decode cX8_writeShip 2 = .ok (.invokevirtual 73, 3) := by decide +kernel
theorem dX8_writeShip_5 : decode cX8_writeShip 5 = .ok (.aload_n 0, 1) := by decide +kernel
theorem dX8_writeShip_6 : decode cX8_writeShip 6 = .ok (.getfield 10, 3) := by decide +kernel
theorem dX8_writeShip_9 : decode cX8_writeShip 9 = .ok (.getfield 64, 3) := by decide +kernel
theorem dX8_writeShip_12 : decode cX8_writeShip 12 = .ok (.astore_n 2, 1) := by decide +kernel
theorem dX8_writeShip_13 : decode cX8_writeShip 13 = .ok (.aload_n 2, 1) := by decide +kernel
theorem dX8_writeShip_14 : decode cX8_writeShip 14 = .ok (.iload_n 1, 1) := by decide +kernel
theorem dX8_writeShip_15 : decode cX8_writeShip 15 = .ok (.invokevirtual 94, 3) := by decide +kernel
theorem dX8_writeShip_18 : decode cX8_writeShip 18 = .ok (.istore_n 3, 1) := by decide +kernel
theorem dX8_writeShip_19 : decode cX8_writeShip 19 = .ok (.aload_n 0, 1) := by decide +kernel
theorem dX8_writeShip_20 : decode cX8_writeShip 20 = .ok (.getfield 43, 3) := by decide +kernel
theorem dX8_writeShip_23 : decode cX8_writeShip 23 = .ok (.iconst 0, 1) := by decide +kernel
theorem dX8_writeShip_24 : decode cX8_writeShip 24 = .ok (.invokevirtual 230, 3) := by decide +kernel
theorem dX8_writeShip_27 : decode cX8_writeShip 27 = .ok (.aload_n 0, 1) := by decide +kernel
theorem dX8_writeShip_28 : decode cX8_writeShip 28 = .ok (.getfield 43, 3) := by decide +kernel
theorem dX8_writeShip_31 : decode cX8_writeShip 31 = .ok (.iload_n 1, 1) := by decide +kernel
theorem dX8_writeShip_32 : decode cX8_writeShip 32 = .ok (.invokevirtual 233, 3) := by decide +kernel
theorem dX8_writeShip_35 : decode cX8_writeShip 35 = .ok (.bipush 36, 2) := by decide +kernel
theorem dX8_writeShip_37 : decode cX8_writeShip 37 = .ok (.invokevirtual 237, 3) := by decide +kernel
theorem dX8_writeShip_40 : decode cX8_writeShip 40 = .ok (.aload_n 2, 1) := by decide +kernel
theorem dX8_writeShip_41 : decode cX8_writeShip 41 = .ok (.getfield 77, 3) := by decide +kernel
theorem dX8_writeShip_44 : decode cX8_writeShip 44 = .ok (.iload_n 1, 1) := by decide +kernel
theorem dX8_writeShip_45 : decode cX8_writeShip 45 = .ok (.iaload, 1) := by decide +kernel
theorem dX8_writeShip_46 : decode cX8_writeShip 46 = .ok (.invokevirtual 233, 3) := by decide +kernel
theorem dX8_writeShip_49 : decode cX8_writeShip 49 = .ok (.pop, 1) := by decide +kernel
theorem dX8_writeShip_50 : decode cX8_writeShip 50 = .ok (.aload_n 0, 1) := by decide +kernel
theorem dX8_writeShip_51 : decode cX8_writeShip 51 = .ok (.getfield 43, 3) := by decide +kernel
theorem dX8_writeShip_54 : decode cX8_writeShip 54 = .ok (.bipush 40, 2) := by decide +kernel
theorem dX8_writeShip_56 : decode cX8_writeShip 56 = .ok (.invokevirtual 237, 3) := by decide +kernel
theorem dX8_writeShip_59 : decode cX8_writeShip 59 = .ok (.iload_n 3, 1) := by decide +kernel
theorem dX8_writeShip_60 : decode cX8_writeShip 60 = .ok (.invokevirtual 233, 3) := by decide +kernel
theorem dX8_writeShip_63 : decode cX8_writeShip 63 = .ok (.bipush 47, 2) := by decide +kernel
theorem dX8_writeShip_65 : decode cX8_writeShip 65 = .ok (.invokevirtual 237, 3) := by decide +kernel
theorem dX8_writeShip_68 : decode cX8_writeShip 68 = .ok (.aload_n 2, 1) := by decide +kernel
theorem dX8_writeShip_69 : decode cX8_writeShip 69 = .ok (.getfield 91, 3) := by decide +kernel
theorem dX8_writeShip_72 : decode cX8_writeShip 72 = .ok (.iload_n 1, 1) := by decide +kernel
theorem dX8_writeShip_73 : decode cX8_writeShip 73 = .ok (.iaload, 1) := by decide +kernel
theorem dX8_writeShip_74 : decode cX8_writeShip 74 = .ok (.invokevirtual 233, 3) := by decide +kernel
theorem dX8_writeShip_77 : decode cX8_writeShip 77 = .ok (.bipush 41, 2) := by decide +kernel
theorem dX8_writeShip_79 : decode cX8_writeShip 79 = .ok (.invokevirtual 237, 3) := by decide +kernel
theorem dX8_writeShip_82 : decode cX8_writeShip 82 = .ok (.pop, 1) := by decide +kernel
theorem dX8_writeShip_83 : decode cX8_writeShip 83 = .ok (.iconst 0, 1) := by decide +kernel
theorem dX8_writeShip_84 : decode cX8_writeShip 84 = .ok (.istore 4, 2) := by decide +kernel
theorem dX8_writeShip_86 : decode cX8_writeShip 86 = .ok (.iload 4, 2) := by decide +kernel
theorem dX8_writeShip_88 : decode cX8_writeShip 88 = .ok (.iload_n 3, 1) := by decide +kernel
theorem dX8_writeShip_89 : decode cX8_writeShip 89 = .ok (.if_icmp .ge 20, 3) := by decide +kernel
theorem dX8_writeShip_92 : decode cX8_writeShip 92 = .ok (.aload_n 0, 1) := by decide +kernel
theorem dX8_writeShip_93 : decode cX8_writeShip 93 = .ok (.aload_n 2, 1) := by decide +kernel
theorem dX8_writeShip_94 : decode cX8_writeShip 94 = .ok (.iload_n 1, 1) := by decide +kernel
theorem dX8_writeShip_95 : decode cX8_writeShip 95 = .ok (.iload 4, 2) := by decide +kernel
theorem dX8_writeShip_97 : decode cX8_writeShip 97 = .ok (.invokevirtual 100, 3) := by decide +kernel
theorem dX8_writeShip_100 : decode cX8_writeShip 100 = .ok (.invokevirtual 240, 3) := by decide +kernel
theorem dX8_writeShip_103 : decode cX8_writeShip 103 = .ok (.iinc 4 1, 3) := by decide +kernel
theorem dX8_writeShip_106 : decode cX8_writeShip 106 = .ok (.goto (-20), 3) := by decide +kernel
theorem dX8_writeShip_109 : decode cX8_writeShip 109 = .ok (.aload_n 0, 1) := by decide +kernel
theorem dX8_writeShip_110 : decode cX8_writeShip 110 = .ok (.getfield 43, 3) := by decide +kernel
theorem dX8_writeShip_113 : decode cX8_writeShip 113 = .ok (.invokevirtual 243, 3) := by decide +kernel
theorem dX8_writeShip_116 : decode cX8_writeShip 116 = .ok (.ireturn, 1) := by decide +kernel
theorem dX8_outputAt_0 : decode cX8_outputAt 0 = .ok (.iload_n 1, 1) := by decide +kernel
theorem dX8_outputAt_1 : decode cX8_outputAt 1 = .ok (.ifCond .lt 14, 3) := by decide +kernel
theorem dX8_outputAt_4 : decode cX8_outputAt 4 = .ok (.iload_n 1, 1) := by decide +kernel
theorem dX8_outputAt_5 : decode cX8_outputAt 5 = .ok (.aload_n 0, 1) := by decide +kernel
theorem dX8_outputAt_6 : decode cX8_outputAt 6 = .ok (.getfield 43, 3) := by decide +kernel
theorem dX8_outputAt_9 : decode cX8_outputAt 9 = .ok (.invokevirtual 243, 3) := by decide +kernel
theorem dX8_outputAt_12 : decode cX8_outputAt 12 = .ok (.if_icmp .lt 13, 3) := by decide +kernel
theorem dX8_outputAt_15 : decode cX8_outputAt 15 = .ok (.new 246, 3) := by decide +kernel
theorem dX8_outputAt_18 : decode cX8_outputAt 18 = .ok (.dup, 1) := by decide +kernel
theorem dX8_outputAt_19 : decode cX8_outputAt 19 = .ok (.ldc 248, 2) := by decide +kernel
theorem dX8_outputAt_21 : decode cX8_outputAt 21 = .ok (.invokespecial 250, 3) := by decide +kernel
theorem dX8_outputAt_24 : decode cX8_outputAt 24 = .ok (.athrow, 1) := by decide +kernel
theorem dX8_outputAt_25 : decode cX8_outputAt 25 = .ok (.aload_n 0, 1) := by decide +kernel
theorem dX8_outputAt_26 : decode cX8_outputAt 26 = .ok (.getfield 43, 3) := by decide +kernel
theorem dX8_outputAt_29 : decode cX8_outputAt 29 = .ok (.iload_n 1, 1) := by decide +kernel
theorem dX8_outputAt_30 : decode cX8_outputAt 30 = .ok (.invokevirtual 251, 3) := by decide +kernel
theorem dX8_outputAt_33 : decode cX8_outputAt 33 = .ok (.ireturn, 1) := by decide +kernel
theorem dX8_appendInput_0 : decode cX8_appendInput 0 = .ok (.iload_n 1, 1) := by decide +kernel
theorem dX8_appendInput_1 : decode cX8_appendInput 1 = .ok (.bipush 32, 2) := by decide +kernel
theorem dX8_appendInput_3 : decode cX8_appendInput 3 = .ok (.bipush 126, 2) := by decide +kernel
theorem dX8_appendInput_5 : decode cX8_appendInput 5 = .ok (.invokestatic 255, 3) := by decide +kernel
theorem dX8_appendInput_8 : decode cX8_appendInput 8 = .ok (.ifCond .ne 14, 3) := by decide +kernel
theorem dX8_appendInput_11 : decode cX8_appendInput 11 = .ok (.new 259, 3) := by decide +kernel
theorem dX8_appendInput_14 : decode cX8_appendInput 14 = .ok (.dup, 1) := by decide +kernel
theorem dX8_appendInput_15 : decode cX8_appendInput 15 = .ok (.ldc_w 261, 3) := by decide +kernel
theorem dX8_appendInput_18 : decode cX8_appendInput 18 = .ok (.invokespecial 263, 3) := by decide +kernel
theorem dX8_appendInput_21 : decode cX8_appendInput 21 = .ok (.athrow, 1) := by decide +kernel
theorem dX8_appendInput_22 : decode cX8_appendInput 22 = .ok (.aload_n 0, 1) := by decide +kernel
theorem dX8_appendInput_23 : decode cX8_appendInput 23 = .ok (.getfield 36, 3) := by decide +kernel
theorem dX8_appendInput_26 : decode cX8_appendInput 26 = .ok (.getfield 264, 3) := by decide +kernel
theorem dX8_appendInput_29 : decode cX8_appendInput 29 = .ok (.bipush 60, 2) := by decide +kernel
theorem dX8_appendInput_31 : decode cX8_appendInput 31 = .ok (.if_icmp .lt 14, 3) := by decide +kernel
theorem dX8_appendInput_34 : decode cX8_appendInput 34 = .ok (.new 266, 3) := by decide +kernel
theorem dX8_appendInput_37 : decode cX8_appendInput 37 = .ok (.dup, 1) := by decide +kernel
theorem dX8_appendInput_38 : decode cX8_appendInput 38 = .ok (.ldc_w 268, 3) := by decide +kernel
theorem dX8_appendInput_41 : decode cX8_appendInput 41 = .ok (.invokespecial 270, 3) := by decide +kernel
theorem dX8_appendInput_44 : decode cX8_appendInput 44 = .ok (.athrow, 1) := by decide +kernel
theorem dX8_appendInput_45 : decode cX8_appendInput 45 = .ok (.aload_n 0, 1) := by decide +kernel
theorem dX8_appendInput_46 : decode cX8_appendInput 46 = .ok (.getfield 36, 3) := by decide +kernel
theorem dX8_appendInput_49 : decode cX8_appendInput 49 = .ok (.getfield 271, 3) := by decide +kernel
theorem dX8_appendInput_52 : decode cX8_appendInput 52 = .ok (.aload_n 0, 1) := by decide +kernel
theorem dX8_appendInput_53 : decode cX8_appendInput 53 = .ok (.getfield 36, 3) := by decide +kernel
theorem dX8_appendInput_56 : decode cX8_appendInput 56 = .ok (.getfield 264, 3) := by decide +kernel
theorem dX8_appendInput_59 : decode cX8_appendInput 59 = .ok (.iload_n 1, 1) := by decide +kernel
theorem dX8_appendInput_60 : decode cX8_appendInput 60 = .ok (.castore, 1) := by decide +kernel
theorem dX8_appendInput_61 : decode cX8_appendInput 61 = .ok (.aload_n 0, 1) := by decide +kernel
theorem dX8_appendInput_62 : decode cX8_appendInput 62 = .ok (.getfield 36, 3) := by decide +kernel
theorem dX8_appendInput_65 : decode cX8_appendInput 65 = .ok (.dup, 1) := by decide +kernel
theorem dX8_appendInput_66 : decode cX8_appendInput 66 = .ok (.getfield 264, 3) := by decide +kernel
theorem dX8_appendInput_69 : decode cX8_appendInput 69 = .ok (.iconst 1, 1) := by decide +kernel
theorem dX8_appendInput_70 : decode cX8_appendInput 70 = .ok (.iadd, 1) := by decide +kernel
theorem dX8_appendInput_71 : decode cX8_appendInput 71 = .ok (.putfield 264, 3) := by decide +kernel
theorem dX8_appendInput_74 : decode cX8_appendInput 74 = .ok (.aload_n 0, 1) := by decide +kernel
theorem dX8_appendInput_75 : decode cX8_appendInput 75 = .ok (.getfield 36, 3) := by decide +kernel
theorem dX8_appendInput_78 : decode cX8_appendInput 78 = .ok (.getfield 264, 3) := by decide +kernel
theorem dX8_appendInput_81 : decode cX8_appendInput 81 = .ok (.ireturn, 1) := by decide +kernel
theorem dX8_execute_0 : decode cX8_execute 0 = .ok (.aload_n 0, 1) := by decide +kernel
theorem dX8_execute_1 : decode cX8_execute 1 = .ok (.getfield 36, 3) := by decide +kernel
theorem dX8_execute_4 : decode cX8_execute 4 = .ok (.invokevirtual 275, 3) := by decide +kernel
theorem dX8_execute_7 : decode cX8_execute 7 = .ok (.istore_n 1, 1) := by decide +kernel
theorem dX8_execute_8 : decode cX8_execute 8 = .ok (.aload_n 0, 1) := by decide +kernel
theorem dX8_execute_9 : decode cX8_execute 9 = .ok (.getfield 36, 3) := by decide +kernel
theorem dX8_execute_12 : decode cX8_execute 12 = .ok (.iconst 0, 1) := by decide +kernel
theorem dX8_execute_13 : decode cX8_execute 13 = .ok (.putfield 264, 3) := by decide +kernel
theorem dX8_execute_16 : decode cX8_execute 16 = .ok (.iload_n 1, 1) := by decide +kernel
theorem dX8_execute_17 : decode cX8_execute 17 = .ok (.iconst (-1), 1) := by decide +kernel
theorem dX8_execute_18 : decode cX8_execute 18 = .ok (.if_icmp .eq 19, 3) := by decide +kernel
theorem dX8_execute_21 : decode cX8_execute 21 = .ok (.aload_n 0, 1) := by decide +kernel
theorem dX8_execute_22 : decode cX8_execute 22 = .ok (.iload_n 1, 1) := by decide +kernel
theorem dX8_execute_23 : decode cX8_execute 23 = .ok (.putfield 57, 3) := by decide +kernel
theorem dX8_execute_26 : decode cX8_execute 26 = .ok (.new 259, 3) := by decide +kernel
theorem dX8_execute_29 : decode cX8_execute 29 = .ok (.dup, 1) := by decide +kernel
theorem dX8_execute_30 : decode cX8_execute 30 = .ok (.ldc_w 278, 3) := by decide +kernel
theorem dX8_execute_33 : decode cX8_execute 33 = .ok (.invokespecial 263, 3) := by decide +kernel
theorem dX8_execute_36 : decode cX8_execute 36 = .ok (.athrow, 1) := by decide +kernel
theorem dX8_execute_37 : decode cX8_execute 37 = .ok (.aload_n 0, 1) := by decide +kernel
theorem dX8_execute_38 : decode cX8_execute 38 = .ok (.getfield 16, 3) := by decide +kernel
theorem dX8_execute_41 : decode cX8_execute 41 = .ok (.aload_n 0, 1) := by decide +kernel
theorem dX8_execute_42 : decode cX8_execute 42 = .ok (.getfield 10, 3) := by decide +kernel
theorem dX8_execute_45 : decode cX8_execute 45 = .ok (.invokevirtual 160, 3) := by decide +kernel
theorem dX8_execute_48 : decode cX8_execute 48 = .ok (.iconst 0, 1) := by decide +kernel
theorem dX8_execute_49 : decode cX8_execute 49 = .ok (.istore_n 2, 1) := by decide +kernel
theorem dX8_execute_50 : decode cX8_execute 50 = .ok (.iload_n 2, 1) := by decide +kernel
theorem dX8_execute_51 : decode cX8_execute 51 = .ok (.aload_n 0, 1) := by decide +kernel
theorem dX8_execute_52 : decode cX8_execute 52 = .ok (.getfield 36, 3) := by decide +kernel
theorem dX8_execute_55 : decode cX8_execute 55 = .ok (.getfield 280, 3) := by decide +kernel
theorem dX8_execute_58 : decode cX8_execute 58 = .ok (.if_icmp .ge 36, 3) := by decide +kernel
theorem dX8_execute_61 : decode cX8_execute 61 = .ok (.aload_n 0, 1) := by decide +kernel
theorem dX8_execute_62 : decode cX8_execute 62 = .ok (.iload_n 2, 1) := by decide +kernel
theorem dX8_execute_63 : decode cX8_execute 63 = .ok (.invokevirtual 281, 3) := by decide +kernel
theorem dX8_execute_66 : decode cX8_execute 66 = .ok (.istore_n 3, 1) := by decide +kernel
theorem dX8_execute_67 : decode cX8_execute 67 = .ok (.iload_n 3, 1) := by decide +kernel
theorem dX8_execute_68 : decode cX8_execute 68 = .ok (.ifCond .eq 20, 3) := by decide +kernel
theorem dX8_execute_71 : decode cX8_execute 71 = .ok (.aload_n 0, 1) := by decide +kernel
theorem dX8_execute_72 : decode cX8_execute 72 = .ok (.getfield 10, 3) := by decide +kernel
theorem dX8_execute_75 : decode cX8_execute 75 = .ok (.aload_n 0, 1) := by decide +kernel
theorem dX8_execute_76 : decode cX8_execute 76 = .ok (.getfield 16, 3) := by decide +kernel
theorem dX8_execute_79 : decode cX8_execute 79 = .ok (.invokevirtual 160, 3) := by decide +kernel
theorem dX8_execute_82 : decode cX8_execute 82 = .ok (.aload_n 0, 1) := by decide +kernel
theorem dX8_execute_83 : decode cX8_execute 83 = .ok (.iload_n 2, 1) := by decide +kernel
theorem dX8_execute_84 : decode cX8_execute 84 = .ok (.iload_n 3, 1) := by decide +kernel
theorem dX8_execute_85 : decode cX8_execute 85 = .ok (.invokevirtual 284, 3) := by decide +kernel
theorem dX8_execute_88 : decode cX8_execute 88 = .ok (.iinc 2 1, 3) := by decide +kernel
theorem dX8_execute_91 : decode cX8_execute 91 = .ok (.goto (-41), 3) := by decide +kernel
theorem dX8_execute_94 : decode cX8_execute 94 = .ok (.aload_n 0, 1) := by decide +kernel
theorem dX8_execute_95 : decode cX8_execute 95 = .ok (.getfield 29, 3) := by decide +kernel
theorem dX8_execute_98 : decode cX8_execute 98 = .ok (.aload_n 0, 1) := by decide +kernel
theorem dX8_execute_99 : decode cX8_execute 99 = .ok (.getfield 16, 3) := by decide +kernel
theorem dX8_execute_102 : decode cX8_execute 102 = .ok (.invokevirtual 288, 3) := by decide +kernel
theorem dX8_execute_105 : decode cX8_execute 105 = .ok (.aload_n 0, 1) := by decide +kernel
theorem dX8_execute_106 : decode cX8_execute 106 = .ok (.getfield 36, 3) := by decide +kernel
theorem dX8_execute_109 : decode cX8_execute 109 = .ok (.getfield 280, 3) := by decide +kernel
theorem dX8_execute_112 : decode cX8_execute 112 = .ok (.ireturn, 1) := by decide +kernel
theorem dX8_syntaxErrorOffset_0 : decode cX8_syntaxErrorOffset 0 = .ok (.aload_n 0, 1) := by decide +kernel
theorem dX8_syntaxErrorOffset_1 : decode cX8_syntaxErrorOffset 1 = .ok (.getfield 57, 3) := by decide +kernel
theorem dX8_syntaxErrorOffset_4 : decode cX8_syntaxErrorOffset 4 = .ok (.iconst (-1), 1) := by decide +kernel
theorem dX8_syntaxErrorOffset_5 : decode cX8_syntaxErrorOffset 5 = .ok (.if_icmp .ne 14, 3) := by decide +kernel
theorem dX8_syntaxErrorOffset_8 : decode cX8_syntaxErrorOffset 8 = .ok (.new 104, 3) := by decide +kernel
theorem dX8_syntaxErrorOffset_11 : decode cX8_syntaxErrorOffset 11 = .ok (.dup, 1) := by decide +kernel
theorem dX8_syntaxErrorOffset_12 : decode cX8_syntaxErrorOffset 12 = .ok (.ldc_w 291, 3) := by decide +kernel
theorem dX8_syntaxErrorOffset_15 : decode cX8_syntaxErrorOffset 15 = .ok (.invokespecial 108, 3) := by decide +kernel
theorem dX8_syntaxErrorOffset_18 : decode cX8_syntaxErrorOffset 18 = .ok (.athrow, 1) := by decide +kernel
theorem dX8_syntaxErrorOffset_19 : decode cX8_syntaxErrorOffset 19 = .ok (.aload_n 0, 1) := by decide +kernel
theorem dX8_syntaxErrorOffset_20 : decode cX8_syntaxErrorOffset 20 = .ok (.getfield 57, 3) := by decide +kernel
theorem dX8_syntaxErrorOffset_23 : decode cX8_syntaxErrorOffset 23 = .ok (.ireturn, 1) := by decide +kernel
theorem dX8_rejectionReason_0 : decode cX8_rejectionReason 0 = .ok (.aload_n 0, 1) := by decide +kernel
theorem dX8_rejectionReason_1 : decode cX8_rejectionReason 1 = .ok (.invokevirtual 293, 3) := by decide +kernel
theorem dX8_rejectionReason_4 : decode cX8_rejectionReason 4 = .ok (.aload_n 0, 1) := by decide +kernel
theorem dX8_rejectionReason_5 : decode cX8_rejectionReason 5 = .ok (.getfield 47, 3) := by decide +kernel
theorem dX8_rejectionReason_8 : decode cX8_rejectionReason 8 = .ok (.ireturn, 1) := by decide +kernel
theorem dX8_rejectionDetail_0 : decode cX8_rejectionDetail 0 = .ok (.aload_n 0, 1) := by decide +kernel
theorem dX8_rejectionDetail_1 : decode cX8_rejectionDetail 1 = .ok (.invokevirtual 293, 3) := by decide +kernel
theorem dX8_rejectionDetail_4 : decode cX8_rejectionDetail 4 = .ok (.aload_n 0, 1) := by decide +kernel
theorem dX8_rejectionDetail_5 : decode cX8_rejectionDetail 5 = .ok (.getfield 51, 3) := by decide +kernel
theorem dX8_rejectionDetail_8 : decode cX8_rejectionDetail 8 = .ok (.ireturn, 1) := by decide +kernel
theorem dX8_causeReason_0 : decode cX8_causeReason 0 = .ok (.aload_n 0, 1) := by decide +kernel
theorem dX8_causeReason_1 : decode cX8_causeReason 1 = .ok (.getfield 47, 3) := by decide +kernel
theorem dX8_causeReason_4 : decode cX8_causeReason 4 = .ok (.bipush 7, 2) := by decide +kernel
theorem dX8_causeReason_6 : decode cX8_causeReason 6 = .ok (.if_icmp .eq 14, 3) := by decide +kernel
theorem dX8_causeReason_9 : decode cX8_causeReason 9 = .ok (.new 104, 3) := by decide +kernel
theorem dX8_causeReason_12 : decode cX8_causeReason 12 = .ok (.dup, 1) := by decide +kernel
theorem dX8_causeReason_13 : decode cX8_causeReason 13 = .ok (.ldc_w 296, 3) := by decide +kernel
theorem dX8_causeReason_16 : decode cX8_causeReason 16 = .ok (.invokespecial 108, 3) := by decide +kernel
theorem dX8_causeReason_19 : decode cX8_causeReason 19 = .ok (.athrow, 1) := by decide +kernel
theorem dX8_causeReason_20 : decode cX8_causeReason 20 = .ok (.aload_n 0, 1) := by decide +kernel
theorem dX8_causeReason_21 : decode cX8_causeReason 21 = .ok (.getfield 54, 3) := by decide +kernel
theorem dX8_causeReason_24 : decode cX8_causeReason 24 = .ok (.ireturn, 1) := by decide +kernel
theorem dX8_undo_0 : decode cX8_undo 0 = .ok (.aload_n 0, 1) := by decide +kernel
theorem dX8_undo_1 : decode cX8_undo 1 = .ok (.getfield 29, 3) := by decide +kernel
theorem dX8_undo_4 : decode cX8_undo 4 = .ok (.getfield 298, 3) := by decide +kernel
theorem dX8_undo_7 : decode cX8_undo 7 = .ok (.ifCond .ne 14, 3) := by decide +kernel
theorem dX8_undo_10 : decode cX8_undo 10 = .ok (.new 266, 3) := by decide +kernel
theorem dX8_undo_13 : decode cX8_undo 13 = .ok (.dup, 1) := by decide +kernel
theorem dX8_undo_14 : decode cX8_undo 14 = .ok (.ldc_w 301, 3) := by decide +kernel
theorem dX8_undo_17 : decode cX8_undo 17 = .ok (.invokespecial 270, 3) := by decide +kernel
theorem dX8_undo_20 : decode cX8_undo 20 = .ok (.athrow, 1) := by decide +kernel
theorem dX8_undo_21 : decode cX8_undo 21 = .ok (.aload_n 0, 1) := by decide +kernel
theorem dX8_undo_22 : decode cX8_undo 22 = .ok (.getfield 29, 3) := by decide +kernel
theorem dX8_undo_25 : decode cX8_undo 25 = .ok (.aload_n 0, 1) := by decide +kernel
theorem dX8_undo_26 : decode cX8_undo 26 = .ok (.getfield 10, 3) := by decide +kernel
theorem dX8_undo_29 : decode cX8_undo 29 = .ok (.invokevirtual 303, 3) := by decide +kernel
theorem dX8_undo_32 : decode cX8_undo 32 = .ok (.aload_n 0, 1) := by decide +kernel
theorem dX8_undo_33 : decode cX8_undo 33 = .ok (.getfield 29, 3) := by decide +kernel
theorem dX8_undo_36 : decode cX8_undo 36 = .ok (.getfield 298, 3) := by decide +kernel
theorem dX8_undo_39 : decode cX8_undo 39 = .ok (.ireturn, 1) := by decide +kernel
theorem dX8_saveSnapshot_0 : decode cX8_saveSnapshot 0 = .ok (.aload_n 0, 1) := by decide +kernel
theorem dX8_saveSnapshot_1 : decode cX8_saveSnapshot 1 = .ok (.getfield 19, 3) := by decide +kernel
theorem dX8_saveSnapshot_4 : decode cX8_saveSnapshot 4 = .ok (.aload_n 0, 1) := by decide +kernel
theorem dX8_saveSnapshot_5 : decode cX8_saveSnapshot 5 = .ok (.getfield 10, 3) := by decide +kernel
theorem dX8_saveSnapshot_8 : decode cX8_saveSnapshot 8 = .ok (.invokevirtual 160, 3) := by decide +kernel
theorem dX8_saveSnapshot_11 : decode cX8_saveSnapshot 11 = .ok (.aload_n 0, 1) := by decide +kernel
theorem dX8_saveSnapshot_12 : decode cX8_saveSnapshot 12 = .ok (.iconst 1, 1) := by decide +kernel
theorem dX8_saveSnapshot_13 : decode cX8_saveSnapshot 13 = .ok (.putfield 22, 3) := by decide +kernel
theorem dX8_saveSnapshot_16 : decode cX8_saveSnapshot 16 = .ok (.aload_n 0, 1) := by decide +kernel
theorem dX8_saveSnapshot_17 : decode cX8_saveSnapshot 17 = .ok (.getfield 10, 3) := by decide +kernel
theorem dX8_saveSnapshot_20 : decode cX8_saveSnapshot 20 = .ok (.getfield 64, 3) := by decide +kernel
theorem dX8_saveSnapshot_23 : decode cX8_saveSnapshot 23 = .ok (.getfield 68, 3) := by decide +kernel
theorem dX8_saveSnapshot_26 : decode cX8_saveSnapshot 26 = .ok (.ireturn, 1) := by decide +kernel
theorem dX8_restoreSnapshot_0 : decode cX8_restoreSnapshot 0 = .ok (.aload_n 0, 1) := by decide +kernel
theorem dX8_restoreSnapshot_1 : decode cX8_restoreSnapshot 1 = .ok (.getfield 22, 3) := by decide +kernel
theorem dX8_restoreSnapshot_4 : decode cX8_restoreSnapshot 4 = .ok (.ifCond .ne 14, 3) := by decide +kernel
theorem dX8_restoreSnapshot_7 : decode cX8_restoreSnapshot 7 = .ok (.new 266, 3) := by decide +kernel
theorem dX8_restoreSnapshot_10 : decode cX8_restoreSnapshot 10 = .ok (.dup, 1) := by decide +kernel
theorem dX8_restoreSnapshot_11 : decode cX8_restoreSnapshot 11 = .ok (.ldc_w 306, 3) := by decide +kernel
theorem dX8_restoreSnapshot_14 : decode cX8_restoreSnapshot 14 = .ok (.invokespecial 270, 3) := by decide +kernel
theorem dX8_restoreSnapshot_17 : decode cX8_restoreSnapshot 17 = .ok (.athrow, 1) := by decide +kernel
theorem dX8_restoreSnapshot_18 : decode cX8_restoreSnapshot 18 = .ok (.aload_n 0, 1) := by decide +kernel
theorem dX8_restoreSnapshot_19 : decode cX8_restoreSnapshot 19 = .ok (.getfield 10, 3) := by decide +kernel
theorem dX8_restoreSnapshot_22 : decode cX8_restoreSnapshot 22 = .ok (.aload_n 0, 1) := by decide +kernel
theorem dX8_restoreSnapshot_23 : decode cX8_restoreSnapshot 23 = .ok (.getfield 19, 3) := by decide +kernel
theorem dX8_restoreSnapshot_26 : decode cX8_restoreSnapshot 26 = .ok (.invokevirtual 160, 3) := by decide +kernel
theorem dX8_restoreSnapshot_29 : decode cX8_restoreSnapshot 29 = .ok (.aload_n 0, 1) := by decide +kernel
theorem dX8_restoreSnapshot_30 : decode cX8_restoreSnapshot 30 = .ok (.getfield 29, 3) := by decide +kernel
theorem dX8_restoreSnapshot_33 : decode cX8_restoreSnapshot 33 = .ok (.iconst 0, 1) := by decide +kernel
theorem dX8_restoreSnapshot_34 : decode cX8_restoreSnapshot 34 = .ok (.putfield 298, 3) := by decide +kernel
theorem dX8_restoreSnapshot_37 : decode cX8_restoreSnapshot 37 = .ok (.aload_n 0, 1) := by decide +kernel
theorem dX8_restoreSnapshot_38 : decode cX8_restoreSnapshot 38 = .ok (.getfield 10, 3) := by decide +kernel
theorem dX8_restoreSnapshot_41 : decode cX8_restoreSnapshot 41 = .ok (.getfield 64, 3) := by decide +kernel
theorem dX8_restoreSnapshot_44 : decode cX8_restoreSnapshot 44 = .ok (.getfield 68, 3) := by decide +kernel
theorem dX8_restoreSnapshot_47 : decode cX8_restoreSnapshot 47 = .ok (.ireturn, 1) := by decide +kernel
theorem dX8_change_0 : decode cX8_change 0 = .ok (.aload_n 0, 1) := by decide +kernel
theorem dX8_change_1 : decode cX8_change 1 = .ok (.aload_n 0, 1) := by decide +kernel
theorem dX8_change_2 : decode cX8_change 2 = .ok (.getfield 10, 3) := by decide +kernel
theorem dX8_change_5 : decode cX8_change 5 = .ok (.iload_n 1, 1) := by decide +kernel
theorem dX8_change_6 : decode cX8_change 6 = .ok (.iload_n 2, 1) := by decide +kernel
theorem dX8_change_7 : decode cX8_change 7 = .ok (.iload_n 3, 1) := by decide +kernel
theorem dX8_change_8 : decode cX8_change 8 = .ok (.iload 4, 2) := by decide +kernel
theorem dX8_change_10 : decode cX8_change 10 = .ok (.invokevirtual 308, 3) := by decide +kernel
theorem dX8_change_13 : decode cX8_change 13 = .ok (.iload_n 2, 1) := by decide +kernel
theorem dX8_change_14 : decode cX8_change 14 = .ok (.invokevirtual 311, 3) := by decide +kernel
theorem dX8_change_17 : decode cX8_change 17 = .ok (.aload_n 0, 1) := by decide +kernel
theorem dX8_change_18 : decode cX8_change 18 = .ok (.getfield 29, 3) := by decide +kernel
theorem dX8_change_21 : decode cX8_change 21 = .ok (.aload_n 0, 1) := by decide +kernel
theorem dX8_change_22 : decode cX8_change 22 = .ok (.getfield 10, 3) := by decide +kernel
theorem dX8_change_25 : decode cX8_change 25 = .ok (.invokevirtual 288, 3) := by decide +kernel
theorem dX8_change_28 : decode cX8_change 28 = .ok (.aload_n 0, 1) := by decide +kernel
theorem dX8_change_29 : decode cX8_change 29 = .ok (.getfield 10, 3) := by decide +kernel
theorem dX8_change_32 : decode cX8_change 32 = .ok (.iload_n 1, 1) := by decide +kernel
theorem dX8_change_33 : decode cX8_change 33 = .ok (.iload_n 2, 1) := by decide +kernel
theorem dX8_change_34 : decode cX8_change 34 = .ok (.iload_n 3, 1) := by decide +kernel
theorem dX8_change_35 : decode cX8_change 35 = .ok (.iload 4, 2) := by decide +kernel
theorem dX8_change_37 : decode cX8_change 37 = .ok (.invokevirtual 314, 3) := by decide +kernel
theorem dX8_change_40 : decode cX8_change 40 = .ok (.ireturn, 1) := by decide +kernel
theorem dX8_refuseUnlessFine_0 : decode cX8_refuseUnlessFine 0 = .ok (.iload_n 1, 1) := by decide +kernel
theorem dX8_refuseUnlessFine_1 : decode cX8_refuseUnlessFine 1 = .ok (.iconst (-1), 1) := by decide +kernel
theorem dX8_refuseUnlessFine_2 : decode cX8_refuseUnlessFine 2 = .ok (.if_icmp .ne 14, 3) := by decide +kernel
theorem dX8_refuseUnlessFine_5 : decode cX8_refuseUnlessFine 5 = .ok (.new 246, 3) := by decide +kernel
theorem dX8_refuseUnlessFine_8 : decode cX8_refuseUnlessFine 8 = .ok (.dup, 1) := by decide +kernel
theorem dX8_refuseUnlessFine_9 : decode cX8_refuseUnlessFine 9 = .ok (.ldc_w 317, 3) := by decide +kernel
theorem dX8_refuseUnlessFine_12 : decode cX8_refuseUnlessFine 12 = .ok (.invokespecial 250, 3) := by decide +kernel
theorem dX8_refuseUnlessFine_15 : decode cX8_refuseUnlessFine 15 = .ok (.athrow, 1) := by decide +kernel
theorem dX8_refuseUnlessFine_16 : decode cX8_refuseUnlessFine 16 = .ok (.iload_n 1, 1) := by decide +kernel
theorem dX8_refuseUnlessFine_17 : decode cX8_refuseUnlessFine 17 = .ok (.bipush (-2), 2) := by decide +kernel
theorem dX8_refuseUnlessFine_19 : decode cX8_refuseUnlessFine 19 = .ok (.if_icmp .ne 14, 3) := by decide +kernel
theorem dX8_refuseUnlessFine_22 : decode cX8_refuseUnlessFine 22 = .ok (.new 259, 3) := by decide +kernel
theorem dX8_refuseUnlessFine_25 : decode cX8_refuseUnlessFine 25 = .ok (.dup, 1) := by decide +kernel
theorem dX8_refuseUnlessFine_26 : decode cX8_refuseUnlessFine 26 = .ok (.ldc_w 319, 3) := by decide +kernel
theorem dX8_refuseUnlessFine_29 : decode cX8_refuseUnlessFine 29 = .ok (.invokespecial 263, 3) := by decide +kernel
theorem dX8_refuseUnlessFine_32 : decode cX8_refuseUnlessFine 32 = .ok (.athrow, 1) := by decide +kernel
theorem dX8_refuseUnlessFine_33 : decode cX8_refuseUnlessFine 33 = .ok (.iload_n 1, 1) := by decide +kernel
theorem dX8_refuseUnlessFine_34 : decode cX8_refuseUnlessFine 34 = .ok (.bipush (-3), 2) := by decide +kernel
theorem dX8_refuseUnlessFine_36 : decode cX8_refuseUnlessFine 36 = .ok (.if_icmp .ne 14, 3) := by decide +kernel
theorem dX8_refuseUnlessFine_39 : decode cX8_refuseUnlessFine 39 = .ok (.new 104, 3) := by decide +kernel
theorem dX8_refuseUnlessFine_42 : decode cX8_refuseUnlessFine 42 = .ok (.dup, 1) := by decide +kernel
theorem dX8_refuseUnlessFine_43 : decode cX8_refuseUnlessFine 43 = .ok (.ldc_w 321, 3) := by decide +kernel
theorem dX8_refuseUnlessFine_46 : decode cX8_refuseUnlessFine 46 = .ok (.invokespecial 108, 3) := by decide +kernel
theorem dX8_refuseUnlessFine_49 : decode cX8_refuseUnlessFine 49 = .ok (.athrow, 1) := by decide +kernel
theorem dX8_refuseUnlessFine_50 : decode cX8_refuseUnlessFine 50 = .ok (.iload_n 1, 1) := by decide +kernel
theorem dX8_refuseUnlessFine_51 : decode cX8_refuseUnlessFine 51 = .ok (.ifCond .eq 29, 3) := by decide +kernel
theorem dX8_refuseUnlessFine_54 : decode cX8_refuseUnlessFine 54 = .ok (.aload_n 0, 1) := by decide +kernel
theorem dX8_refuseUnlessFine_55 : decode cX8_refuseUnlessFine 55 = .ok (.iload_n 1, 1) := by decide +kernel
theorem dX8_refuseUnlessFine_56 : decode cX8_refuseUnlessFine 56 = .ok (.aload_n 0, 1) := by decide +kernel
theorem dX8_refuseUnlessFine_57 : decode cX8_refuseUnlessFine 57 = .ok (.getfield 10, 3) := by decide +kernel
theorem dX8_refuseUnlessFine_60 : decode cX8_refuseUnlessFine 60 = .ok (.iload_n 1, 1) := by decide +kernel
theorem dX8_refuseUnlessFine_61 : decode cX8_refuseUnlessFine 61 = .ok (.iload_n 2, 1) := by decide +kernel
theorem dX8_refuseUnlessFine_62 : decode cX8_refuseUnlessFine 62 = .ok (.invokevirtual 323, 3) := by decide +kernel
theorem dX8_refuseUnlessFine_65 : decode cX8_refuseUnlessFine 65 = .ok (.iconst (-1), 1) := by decide +kernel
theorem dX8_refuseUnlessFine_66 : decode cX8_refuseUnlessFine 66 = .ok (.invokevirtual 326, 3) := by decide +kernel
theorem dX8_refuseUnlessFine_69 : decode cX8_refuseUnlessFine 69 = .ok (.new 330, 3) := by decide +kernel
theorem dX8_refuseUnlessFine_72 : decode cX8_refuseUnlessFine 72 = .ok (.dup, 1) := by decide +kernel
theorem dX8_refuseUnlessFine_73 : decode cX8_refuseUnlessFine 73 = .ok (.ldc_w 332, 3) := by decide +kernel
theorem dX8_refuseUnlessFine_76 : decode cX8_refuseUnlessFine 76 = .ok (.invokespecial 334, 3) := by decide +kernel
theorem dX8_refuseUnlessFine_79 : decode cX8_refuseUnlessFine 79 = .ok (.athrow, 1) := by decide +kernel
theorem dX8_refuseUnlessFine_80 : decode cX8_refuseUnlessFine 80 = .ok (.return_, 1) := by decide +kernel
theorem dX8_perform_0 : decode cX8_perform 0 = .ok (.aload_n 0, 1) := by decide +kernel
theorem dX8_perform_1 : decode cX8_perform 1 = .ok (.getfield 36, 3) := by decide +kernel
theorem dX8_perform_4 : decode cX8_perform 4 = .ok (.getfield 335, 3) := by decide +kernel
theorem dX8_perform_7 : decode cX8_perform 7 = .ok (.iload_n 1, 1) := by decide +kernel
theorem dX8_perform_8 : decode cX8_perform 8 = .ok (.caload, 1) := by decide +kernel
theorem dX8_perform_9 : decode cX8_perform 9 = .ok (.istore_n 2, 1) := by decide +kernel
theorem dX8_perform_10 : decode cX8_perform 10 = .ok (.aload_n 0, 1) := by decide +kernel
theorem dX8_perform_11 : decode cX8_perform 11 = .ok (.getfield 36, 3) := by decide +kernel
theorem dX8_perform_14 : decode cX8_perform 14 = .ok (.getfield 338, 3) := by decide +kernel
theorem dX8_perform_17 : decode cX8_perform 17 = .ok (.iload_n 1, 1) := by decide +kernel
theorem dX8_perform_18 : decode cX8_perform 18 = .ok (.aaload, 1) := by decide +kernel
theorem dX8_perform_19 : decode cX8_perform 19 = .ok (.iconst 0, 1) := by decide +kernel
theorem dX8_perform_20 : decode cX8_perform 20 = .ok (.iaload, 1) := by decide +kernel
theorem dX8_perform_21 : decode cX8_perform 21 = .ok (.istore_n 3, 1) := by decide +kernel
theorem dX8_perform_22 : decode cX8_perform 22 = .ok (.aload_n 0, 1) := by decide +kernel
theorem dX8_perform_23 : decode cX8_perform 23 = .ok (.getfield 36, 3) := by decide +kernel
theorem dX8_perform_26 : decode cX8_perform 26 = .ok (.getfield 338, 3) := by decide +kernel
theorem dX8_perform_29 : decode cX8_perform 29 = .ok (.iload_n 1, 1) := by decide +kernel
theorem dX8_perform_30 : decode cX8_perform 30 = .ok (.aaload, 1) := by decide +kernel
theorem dX8_perform_31 : decode cX8_perform 31 = .ok (.iconst 1, 1) := by decide +kernel
theorem dX8_perform_32 : decode cX8_perform 32 = .ok (.iaload, 1) := by decide +kernel
theorem dX8_perform_33 : decode cX8_perform 33 = .ok (.istore 4, 2) := by decide +kernel
theorem dX8_perform_35 : decode cX8_perform 35 = .ok (.aload_n 0, 1) := by decide +kernel
theorem dX8_perform_36 : decode cX8_perform 36 = .ok (.getfield 36, 3) := by decide +kernel
theorem dX8_perform_39 : decode cX8_perform 39 = .ok (.getfield 338, 3) := by decide +kernel
theorem dX8_perform_42 : decode cX8_perform 42 = .ok (.iload_n 1, 1) := by decide +kernel
theorem dX8_perform_43 : decode cX8_perform 43 = .ok (.aaload, 1) := by decide +kernel
theorem dX8_perform_44 : decode cX8_perform 44 = .ok (.iconst 2, 1) := by decide +kernel
theorem dX8_perform_45 : decode cX8_perform 45 = .ok (.iaload, 1) := by decide +kernel
theorem dX8_perform_46 : decode cX8_perform 46 = .ok (.istore 5, 2) := by decide +kernel
theorem dX8_perform_48 : decode cX8_perform 48 = .ok (.aload_n 0, 1) := by decide +kernel
theorem dX8_perform_49 : decode cX8_perform 49 = .ok (.getfield 10, 3) := by decide +kernel
theorem dX8_perform_52 : decode cX8_perform 52 = .ok (.iload_n 2, 1) := by decide +kernel
theorem dX8_perform_53 : decode cX8_perform 53 = .ok (.iload_n 3, 1) := by decide +kernel
theorem dX8_perform_54 : decode cX8_perform 54 = .ok (.iload 4, 2) := by decide +kernel
theorem dX8_perform_56 : decode cX8_perform 56 = .ok (.iload 5, 2) := by decide +kernel
theorem dX8_perform_58 : decode cX8_perform 58 = .ok (.invokevirtual 308, 3) := by decide +kernel
theorem dX8_perform_61 : decode cX8_perform 61 = .ok (.istore 6, 2) := by decide +kernel
theorem dX8_perform_63 : decode cX8_perform 63 = .ok (.iload 6, 2) := by decide +kernel
theorem dX8_perform_65 : decode cX8_perform 65 = .ok (.ifCond .ne 17, 3) := by decide +kernel
theorem dX8_perform_68 : decode cX8_perform 68 = .ok (.aload_n 0, 1) := by decide +kernel
theorem dX8_perform_69 : decode cX8_perform 69 = .ok (.getfield 10, 3) := by decide +kernel
theorem dX8_perform_72 : decode cX8_perform 72 = .ok (.iload_n 2, 1) := by decide +kernel
theorem dX8_perform_73 : decode cX8_perform 73 = .ok (.iload_n 3, 1) := by decide +kernel
theorem dX8_perform_74 : decode cX8_perform 74 = .ok (.iload 4, 2) := by decide +kernel
theorem dX8_perform_76 : decode cX8_perform 76 = .ok (.iload 5, 2) := by decide +kernel
theorem dX8_perform_78 : decode cX8_perform 78 = .ok (.invokevirtual 314, 3) := by decide +kernel
theorem dX8_perform_81 : decode cX8_perform 81 = .ok (.pop, 1) := by decide +kernel
theorem dX8_perform_82 : decode cX8_perform 82 = .ok (.iload 6, 2) := by decide +kernel
theorem dX8_perform_84 : decode cX8_perform 84 = .ok (.ireturn, 1) := by decide +kernel
theorem dX8_refuseCommand_0 : decode cX8_refuseCommand 0 = .ok (.iload_n 2, 1) := by decide +kernel
theorem dX8_refuseCommand_1 : decode cX8_refuseCommand 1 = .ok (.iconst (-1), 1) := by decide +kernel
theorem dX8_refuseCommand_2 : decode cX8_refuseCommand 2 = .ok (.if_icmp .eq 15, 3) := by decide +kernel
theorem dX8_refuseCommand_5 : decode cX8_refuseCommand 5 = .ok (.iload_n 2, 1) := by decide +kernel
theorem dX8_refuseCommand_6 : decode cX8_refuseCommand 6 = .ok (.bipush (-2), 2) := by decide +kernel
theorem dX8_refuseCommand_8 : decode cX8_refuseCommand 8 = .ok (.if_icmp .eq 9, 3) := by decide +kernel
theorem dX8_refuseCommand_11 : decode cX8_refuseCommand 11 = .ok (.iload_n 2, 1) := by decide +kernel
theorem dX8_refuseCommand_12 : decode cX8_refuseCommand 12 = .ok (.bipush (-3), 2) := by decide +kernel
theorem dX8_refuseCommand_14 : decode cX8_refuseCommand 14 = .ok (.if_icmp .ne 14, 3) := by decide +kernel
theorem dX8_refuseCommand_17 : decode cX8_refuseCommand 17 = .ok (.new 266, 3) := by decide +kernel
theorem dX8_refuseCommand_20 : decode cX8_refuseCommand 20 = .ok (.dup, 1) := by decide +kernel
theorem dX8_refuseCommand_21 : decode cX8_refuseCommand 21 = .ok (.ldc_w 342, 3) := by decide +kernel
theorem dX8_refuseCommand_24 : decode cX8_refuseCommand 24 = .ok (.invokespecial 270, 3) := by decide +kernel
theorem dX8_refuseCommand_27 : decode cX8_refuseCommand 27 = .ok (.athrow, 1) := by decide +kernel
theorem dX8_refuseCommand_28 : decode cX8_refuseCommand 28 = .ok (.aload_n 0, 1) := by decide +kernel
theorem dX8_refuseCommand_29 : decode cX8_refuseCommand 29 = .ok (.bipush 7, 2) := by decide +kernel
theorem dX8_refuseCommand_31 : decode cX8_refuseCommand 31 = .ok (.iload_n 1, 1) := by decide +kernel
theorem dX8_refuseCommand_32 : decode cX8_refuseCommand 32 = .ok (.iload_n 2, 1) := by decide +kernel
theorem dX8_refuseCommand_33 : decode cX8_refuseCommand 33 = .ok (.invokevirtual 326, 3) := by decide +kernel
theorem dX8_refuseCommand_36 : decode cX8_refuseCommand 36 = .ok (.new 330, 3) := by decide +kernel
theorem dX8_refuseCommand_39 : decode cX8_refuseCommand 39 = .ok (.dup, 1) := by decide +kernel
theorem dX8_refuseCommand_40 : decode cX8_refuseCommand 40 = .ok (.ldc_w 344, 3) := by decide +kernel
theorem dX8_refuseCommand_43 : decode cX8_refuseCommand 43 = .ok (.invokespecial 334, 3) := by decide +kernel
theorem dX8_refuseCommand_46 : decode cX8_refuseCommand 46 = .ok (.athrow, 1) := by decide +kernel
theorem dX8_noteRejection_0 : decode cX8_noteRejection 0 = .ok (.aload_n 0, 1) := by decide +kernel
theorem dX8_noteRejection_1 : decode cX8_noteRejection 1 = .ok (.iload_n 1, 1) := by decide +kernel
theorem dX8_noteRejection_2 : decode cX8_noteRejection 2 = .ok (.putfield 47, 3) := by decide +kernel
theorem dX8_noteRejection_5 : decode cX8_noteRejection 5 = .ok (.aload_n 0, 1) := by decide +kernel
theorem dX8_noteRejection_6 : decode cX8_noteRejection 6 = .ok (.iload_n 2, 1) := by decide +kernel
theorem dX8_noteRejection_7 : decode cX8_noteRejection 7 = .ok (.putfield 51, 3) := by decide +kernel
theorem dX8_noteRejection_10 : decode cX8_noteRejection 10 = .ok (.aload_n 0, 1) := by decide +kernel
theorem dX8_noteRejection_11 : decode cX8_noteRejection 11 = .ok (.iload_n 3, 1) := by decide +kernel
theorem dX8_noteRejection_12 : decode cX8_noteRejection 12 = .ok (.putfield 54, 3) := by decide +kernel
theorem dX8_noteRejection_15 : decode cX8_noteRejection 15 = .ok (.return_, 1) := by decide +kernel
theorem dX8_requireShip_0 : decode cX8_requireShip 0 = .ok (.aload_n 0, 1) := by decide +kernel
theorem dX8_requireShip_1 : decode cX8_requireShip 1 = .ok (.getfield 10, 3) := by decide +kernel
theorem dX8_requireShip_4 : decode cX8_requireShip 4 = .ok (.getfield 64, 3) := by decide +kernel
theorem dX8_requireShip_7 : decode cX8_requireShip 7 = .ok (.iload_n 1, 1) := by decide +kernel
theorem dX8_requireShip_8 : decode cX8_requireShip 8 = .ok (.invokevirtual 346, 3) := by decide +kernel
theorem dX8_requireShip_11 : decode cX8_requireShip 11 = .ok (.ifCond .ne 14, 3) := by decide +kernel
theorem dX8_requireShip_14 : decode cX8_requireShip 14 = .ok (.new 246, 3) := by decide +kernel
theorem dX8_requireShip_17 : decode cX8_requireShip 17 = .ok (.dup, 1) := by decide +kernel
theorem dX8_requireShip_18 : decode cX8_requireShip 18 = .ok (.ldc_w 350, 3) := by decide +kernel
theorem dX8_requireShip_21 : decode cX8_requireShip 21 = .ok (.invokespecial 250, 3) := by decide +kernel
theorem dX8_requireShip_24 : decode cX8_requireShip 24 = .ok (.athrow, 1) := by decide +kernel
theorem dX8_requireShip_25 : decode cX8_requireShip 25 = .ok (.return_, 1) := by decide +kernel
theorem dX8_requireBarnacle_0 : decode cX8_requireBarnacle 0 = .ok (.aload_n 0, 1) := by decide +kernel
theorem dX8_requireBarnacle_1 : decode cX8_requireBarnacle 1 = .ok (.getfield 10, 3) := by decide +kernel
theorem dX8_requireBarnacle_4 : decode cX8_requireBarnacle 4 = .ok (.getfield 64, 3) := by decide +kernel
theorem dX8_requireBarnacle_7 : decode cX8_requireBarnacle 7 = .ok (.iload_n 1, 1) := by decide +kernel
theorem dX8_requireBarnacle_8 : decode cX8_requireBarnacle 8 = .ok (.invokevirtual 352, 3) := by decide +kernel
theorem dX8_requireBarnacle_11 : decode cX8_requireBarnacle 11 = .ok (.ifCond .ne 14, 3) := by decide +kernel
theorem dX8_requireBarnacle_14 : decode cX8_requireBarnacle 14 = .ok (.new 246, 3) := by decide +kernel
theorem dX8_requireBarnacle_17 : decode cX8_requireBarnacle 17 = .ok (.dup, 1) := by decide +kernel
theorem dX8_requireBarnacle_18 : decode cX8_requireBarnacle 18 = .ok (.ldc_w 355, 3) := by decide +kernel
theorem dX8_requireBarnacle_21 : decode cX8_requireBarnacle 21 = .ok (.invokespecial 250, 3) := by decide +kernel
theorem dX8_requireBarnacle_24 : decode cX8_requireBarnacle 24 = .ok (.athrow, 1) := by decide +kernel
theorem dX8_requireBarnacle_25 : decode cX8_requireBarnacle 25 = .ok (.return_, 1) := by decide +kernel
theorem dX8_requireTrade_0 : decode cX8_requireTrade 0 = .ok (.aload_n 0, 1) := by decide +kernel
theorem dX8_requireTrade_1 : decode cX8_requireTrade 1 = .ok (.getfield 10, 3) := by decide +kernel
theorem dX8_requireTrade_4 : decode cX8_requireTrade 4 = .ok (.getfield 177, 3) := by decide +kernel
theorem dX8_requireTrade_7 : decode cX8_requireTrade 7 = .ok (.iload_n 1, 1) := by decide +kernel
theorem dX8_requireTrade_8 : decode cX8_requireTrade 8 = .ok (.invokevirtual 357, 3) := by decide +kernel
theorem dX8_requireTrade_11 : decode cX8_requireTrade 11 = .ok (.ifCond .ne 14, 3) := by decide +kernel
theorem dX8_requireTrade_14 : decode cX8_requireTrade 14 = .ok (.new 104, 3) := by decide +kernel
theorem dX8_requireTrade_17 : decode cX8_requireTrade 17 = .ok (.dup, 1) := by decide +kernel
theorem dX8_requireTrade_18 : decode cX8_requireTrade 18 = .ok (.ldc_w 360, 3) := by decide +kernel
theorem dX8_requireTrade_21 : decode cX8_requireTrade 21 = .ok (.invokespecial 108, 3) := by decide +kernel
theorem dX8_requireTrade_24 : decode cX8_requireTrade 24 = .ok (.athrow, 1) := by decide +kernel
theorem dX8_requireTrade_25 : decode cX8_requireTrade 25 = .ok (.return_, 1) := by decide +kernel
theorem dX8_requireRejection_0 : decode cX8_requireRejection 0 = .ok (.aload_n 0, 1) := by decide +kernel
theorem dX8_requireRejection_1 : decode cX8_requireRejection 1 = .ok (.getfield 47, 3) := by decide +kernel
theorem dX8_requireRejection_4 : decode cX8_requireRejection 4 = .ok (.iconst (-1), 1) := by decide +kernel
theorem dX8_requireRejection_5 : decode cX8_requireRejection 5 = .ok (.if_icmp .ne 14, 3) := by decide +kernel
theorem dX8_requireRejection_8 : decode cX8_requireRejection 8 = .ok (.new 104, 3) := by decide +kernel
theorem dX8_requireRejection_11 : decode cX8_requireRejection 11 = .ok (.dup, 1) := by decide +kernel
theorem dX8_requireRejection_12 : decode cX8_requireRejection 12 = .ok (.ldc_w 362, 3) := by decide +kernel
theorem dX8_requireRejection_15 : decode cX8_requireRejection 15 = .ok (.invokespecial 108, 3) := by decide +kernel
theorem dX8_requireRejection_18 : decode cX8_requireRejection 18 = .ok (.athrow, 1) := by decide +kernel
theorem dX8_requireRejection_19 : decode cX8_requireRejection 19 = .ok (.return_, 1) := by decide +kernel
theorem dX8_openRow_0 : decode cX8_openRow 0 = .ok (.aload_n 0, 1) := by decide +kernel
theorem dX8_openRow_1 : decode cX8_openRow 1 = .ok (.iload_n 1, 1) := by decide +kernel
theorem dX8_openRow_2 : decode cX8_openRow 2 = .ok (.invokevirtual 364, 3) := by decide +kernel
theorem dX8_openRow_5 : decode cX8_openRow 5 = .ok (.istore_n 2, 1) := by decide +kernel
theorem dX8_openRow_6 : decode cX8_openRow 6 = .ok (.iload_n 2, 1) := by decide +kernel
theorem dX8_openRow_7 : decode cX8_openRow 7 = .ok (.iconst (-1), 1) := by decide +kernel
theorem dX8_openRow_8 : decode cX8_openRow 8 = .ok (.if_icmp .ne 14, 3) := by decide +kernel
theorem dX8_openRow_11 : decode cX8_openRow 11 = .ok (.new 104, 3) := by decide +kernel
theorem dX8_openRow_14 : decode cX8_openRow 14 = .ok (.dup, 1) := by decide +kernel
theorem dX8_openRow_15 : decode cX8_openRow 15 = .ok (.ldc_w 321, 3) := by decide +kernel
theorem dX8_openRow_18 : decode cX8_openRow 18 = .ok (.invokespecial 108, 3) := by decide +kernel
theorem dX8_openRow_21 : decode cX8_openRow 21 = .ok (.athrow, 1) := by decide +kernel
theorem dX8_openRow_22 : decode cX8_openRow 22 = .ok (.iload_n 2, 1) := by decide +kernel
theorem dX8_openRow_23 : decode cX8_openRow 23 = .ok (.ireturn, 1) := by decide +kernel
theorem dX8_idAt_0 : decode cX8_idAt 0 = .ok (.iload_n 1, 1) := by decide +kernel
theorem dX8_idAt_1 : decode cX8_idAt 1 = .ok (.ifCond .lt 11, 3) := by decide +kernel
theorem dX8_idAt_4 : decode cX8_idAt 4 = .ok (.iload_n 1, 1) := by decide +kernel
theorem dX8_idAt_5 : decode cX8_idAt 5 = .ok (.aload_n 0, 1) := by decide +kernel
theorem dX8_idAt_6 : decode cX8_idAt 6 = .ok (.getfield 129, 3) := by decide +kernel
theorem dX8_idAt_9 : decode cX8_idAt 9 = .ok (.if_icmp .lt 14, 3) := by decide +kernel
theorem dX8_idAt_12 : decode cX8_idAt 12 = .ok (.new 104, 3) := by decide +kernel
theorem dX8_idAt_15 : decode cX8_idAt 15 = .ok (.dup, 1) := by decide +kernel
theorem dX8_idAt_16 : decode cX8_idAt 16 = .ok (.ldc_w 367, 3) := by decide +kernel
theorem dX8_idAt_19 : decode cX8_idAt 19 = .ok (.invokespecial 108, 3) := by decide +kernel
theorem dX8_idAt_22 : decode cX8_idAt 22 = .ok (.athrow, 1) := by decide +kernel
theorem dX8_idAt_23 : decode cX8_idAt 23 = .ok (.aload_n 0, 1) := by decide +kernel
theorem dX8_idAt_24 : decode cX8_idAt 24 = .ok (.getfield 369, 3) := by decide +kernel
theorem dX8_idAt_27 : decode cX8_idAt 27 = .ok (.iload_n 1, 1) := by decide +kernel
theorem dX8_idAt_28 : decode cX8_idAt 28 = .ok (.iaload, 1) := by decide +kernel
theorem dX8_idAt_29 : decode cX8_idAt 29 = .ok (.ireturn, 1) := by decide +kernel
theorem dX8_matchedOffer_0 : decode cX8_matchedOffer 0 = .ok (.iload_n 1, 1) := by decide +kernel
theorem dX8_matchedOffer_1 : decode cX8_matchedOffer 1 = .ok (.iconst (-1), 1) := by decide +kernel
theorem dX8_matchedOffer_2 : decode cX8_matchedOffer 2 = .ok (.if_icmp .ne 14, 3) := by decide +kernel
theorem dX8_matchedOffer_5 : decode cX8_matchedOffer 5 = .ok (.new 104, 3) := by decide +kernel
theorem dX8_matchedOffer_8 : decode cX8_matchedOffer 8 = .ok (.dup, 1) := by decide +kernel
theorem dX8_matchedOffer_9 : decode cX8_matchedOffer 9 = .ok (.ldc_w 372, 3) := by decide +kernel
theorem dX8_matchedOffer_12 : decode cX8_matchedOffer 12 = .ok (.invokespecial 108, 3) := by decide +kernel
theorem dX8_matchedOffer_15 : decode cX8_matchedOffer 15 = .ok (.athrow, 1) := by decide +kernel
theorem dX8_matchedOffer_16 : decode cX8_matchedOffer 16 = .ok (.aload_n 0, 1) := by decide +kernel
theorem dX8_matchedOffer_17 : decode cX8_matchedOffer 17 = .ok (.getfield 10, 3) := by decide +kernel
theorem dX8_matchedOffer_20 : decode cX8_matchedOffer 20 = .ok (.getfield 123, 3) := by decide +kernel
theorem dX8_matchedOffer_23 : decode cX8_matchedOffer 23 = .ok (.getfield 369, 3) := by decide +kernel
theorem dX8_matchedOffer_26 : decode cX8_matchedOffer 26 = .ok (.iload_n 1, 1) := by decide +kernel
theorem dX8_matchedOffer_27 : decode cX8_matchedOffer 27 = .ok (.iaload, 1) := by decide +kernel
theorem dX8_matchedOffer_28 : decode cX8_matchedOffer 28 = .ok (.ireturn, 1) := by decide +kernel
theorem dX8_writeBarnacle_0 : decode cX8_writeBarnacle 0 = .ok (.aload_n 0, 1) := by decide +kernel
theorem dX8_writeBarnacle_1 : decode cX8_writeBarnacle 1 = .ok (.getfield 10, 3) := by decide +kernel
theorem dX8_writeBarnacle_4 : decode cX8_writeBarnacle 4 = .ok (.getfield 64, 3) := by decide +kernel
theorem dX8_writeBarnacle_7 : decode cX8_writeBarnacle 7 = .ok (.iload_n 1, 1) := by decide +kernel
theorem dX8_writeBarnacle_8 : decode cX8_writeBarnacle 8 = .ok (.invokevirtual 352, 3) := by decide +kernel
theorem dX8_writeBarnacle_11 : decode cX8_writeBarnacle 11 = .ok (.ifCond .ne 4, 3) := by decide +kernel
theorem dX8_writeBarnacle_14 : decode cX8_writeBarnacle 14 = .ok (.return_, 1) := by decide +kernel
theorem dX8_writeBarnacle_15 : decode cX8_writeBarnacle 15 = .ok (.aload_n 0, 1) := by decide +kernel
theorem dX8_writeBarnacle_16 : decode cX8_writeBarnacle 16 = .ok (.getfield 43, 3) := by decide +kernel
theorem dX8_writeBarnacle_19 : decode cX8_writeBarnacle 19 = .ok (.bipush 32, 2) := by decide +kernel
theorem dX8_writeBarnacle_21 : decode cX8_writeBarnacle 21 = .ok (.invokevirtual 237, 3) := by decide +kernel
theorem dX8_writeBarnacle_24 : decode cX8_writeBarnacle 24 = .ok (.iload_n 1, 1) := by decide +kernel
theorem dX8_writeBarnacle_25 : decode cX8_writeBarnacle 25 = .ok (.invokevirtual 233, 3) := by decide +kernel
theorem dX8_writeBarnacle_28 : decode cX8_writeBarnacle 28 = .ok (.bipush 103, 2) := by decide +kernel
theorem dX8_writeBarnacle_30 : decode cX8_writeBarnacle 30 = .ok (.invokevirtual 237, 3) := by decide +kernel
theorem dX8_writeBarnacle_33 : decode cX8_writeBarnacle 33 = .ok (.aload_n 0, 1) := by decide +kernel
theorem dX8_writeBarnacle_34 : decode cX8_writeBarnacle 34 = .ok (.getfield 10, 3) := by decide +kernel
theorem dX8_writeBarnacle_37 : decode cX8_writeBarnacle 37 = .ok (.getfield 64, 3) := by decide +kernel
theorem dX8_writeBarnacle_40 : decode cX8_writeBarnacle 40 = .ok (.getfield 120, 3) := by decide +kernel
theorem dX8_writeBarnacle_43 : decode cX8_writeBarnacle 43 = .ok (.iload_n 1, 1) := by decide +kernel
theorem dX8_writeBarnacle_44 : decode cX8_writeBarnacle 44 = .ok (.iaload, 1) := by decide +kernel
theorem dX8_writeBarnacle_45 : decode cX8_writeBarnacle 45 = .ok (.invokevirtual 233, 3) := by decide +kernel
theorem dX8_writeBarnacle_48 : decode cX8_writeBarnacle 48 = .ok (.pop, 1) := by decide +kernel
theorem dX8_writeBarnacle_49 : decode cX8_writeBarnacle 49 = .ok (.aload_n 0, 1) := by decide +kernel
theorem dX8_writeBarnacle_50 : decode cX8_writeBarnacle 50 = .ok (.getfield 10, 3) := by decide +kernel
theorem dX8_writeBarnacle_53 : decode cX8_writeBarnacle 53 = .ok (.getfield 123, 3) := by decide +kernel
theorem dX8_writeBarnacle_56 : decode cX8_writeBarnacle 56 = .ok (.iload_n 1, 1) := by decide +kernel
theorem dX8_writeBarnacle_57 : decode cX8_writeBarnacle 57 = .ok (.invokevirtual 126, 3) := by decide +kernel
theorem dX8_writeBarnacle_60 : decode cX8_writeBarnacle 60 = .ok (.iconst (-1), 1) := by decide +kernel
theorem dX8_writeBarnacle_61 : decode cX8_writeBarnacle 61 = .ok (.if_icmp .eq 13, 3) := by decide +kernel
theorem dX8_writeBarnacle_64 : decode cX8_writeBarnacle 64 = .ok (.aload_n 0, 1) := by decide +kernel
theorem dX8_writeBarnacle_65 : decode cX8_writeBarnacle 65 = .ok (.getfield 43, 3) := by decide +kernel
theorem dX8_writeBarnacle_68 : decode cX8_writeBarnacle 68 = .ok (.bipush 33, 2) := by decide +kernel
theorem dX8_writeBarnacle_70 : decode cX8_writeBarnacle 70 = .ok (.invokevirtual 237, 3) := by decide +kernel
theorem dX8_writeBarnacle_73 : decode cX8_writeBarnacle 73 = .ok (.pop, 1) := by decide +kernel
theorem dX8_writeBarnacle_74 : decode cX8_writeBarnacle 74 = .ok (.return_, 1) := by decide +kernel
theorem dX8_isWithin_0 : decode cX8_isWithin 0 = .ok (.iload_n 0, 1) := by decide +kernel
theorem dX8_isWithin_1 : decode cX8_isWithin 1 = .ok (.iload_n 1, 1) := by decide +kernel
theorem dX8_isWithin_2 : decode cX8_isWithin 2 = .ok (.if_icmp .lt 12, 3) := by decide +kernel
theorem dX8_isWithin_5 : decode cX8_isWithin 5 = .ok (.iload_n 0, 1) := by decide +kernel
theorem dX8_isWithin_6 : decode cX8_isWithin 6 = .ok (.iload_n 2, 1) := by decide +kernel
theorem dX8_isWithin_7 : decode cX8_isWithin 7 = .ok (.if_icmp .gt 7, 3) := by decide +kernel
theorem dX8_isWithin_10 : decode cX8_isWithin 10 = .ok (.iconst 1, 1) := by decide +kernel
theorem dX8_isWithin_11 : decode cX8_isWithin 11 = .ok (.goto 4, 3) := by decide +kernel
theorem dX8_isWithin_14 : decode cX8_isWithin 14 = .ok (.iconst 0, 1) := by decide +kernel
theorem dX8_isWithin_15 : decode cX8_isWithin 15 = .ok (.ireturn, 1) := by decide +kernel
