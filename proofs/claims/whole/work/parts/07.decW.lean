theorem dL_addShip_0 : decode cL_addShip 0 = .ok (.aload_n 3, 1) := by decide +kernel
theorem dL_addShip_1 : decode cL_addShip 1 = .ok (.iconst 0, 1) := by decide +kernel
theorem dL_addShip_2 : decode cL_addShip 2 = .ok (.aload_n 0, 1) := by decide +kernel
theorem dL_addShip_3 : decode cL_addShip 3 = .ok (.iload_n 1, 1) := by decide +kernel
theorem dL_addShip_4 : decode cL_addShip 4 = .ok (.iload_n 2, 1) := by decide +kernel
theorem dL_addShip_5 : decode cL_addShip 5 = .ok (.invokevirtual 7, 3) := by decide +kernel
theorem dL_addShip_8 : decode cL_addShip 8 = .ok (.i2l, 1) := by decide +kernel
theorem dL_addShip_9 : decode cL_addShip 9 = .ok (.lastore, 1) := by decide +kernel
theorem dL_addShip_10 : decode cL_addShip 10 = .ok (.goto 11, 3) := by decide +kernel
theorem dL_addShip_13 : decode cL_addShip 13 = .ok (.astore 4, 2) := by decide +kernel
theorem dL_addShip_15 : decode cL_addShip 15 = .ok (.iconst 1, 1) := by decide +kernel
theorem dL_addShip_16 : decode cL_addShip 16 = .ok (.ireturn, 1) := by decide +kernel
theorem dL_addShip_17 : decode cL_addShip 17 = .ok (.astore 4, 2) := by decide +kernel
theorem dL_addShip_19 : decode cL_addShip 19 = .ok (.iconst 2, 1) := by decide +kernel
theorem dL_addShip_20 : decode cL_addShip 20 = .ok (.ireturn, 1) := by decide +kernel
theorem dL_addShip_21 : decode cL_addShip 21 = .ok (.iconst 0, 1) := by decide +kernel
theorem dL_addShip_22 : decode cL_addShip 22 = .ok (.ireturn, 1) := by decide +kernel
theorem dL_addBarnacle_0 : decode cL_addBarnacle 0 = .ok (.aload_n 3, 1) := by decide +kernel
theorem dL_addBarnacle_1 : decode cL_addBarnacle 1 = .ok (.iconst 0, 1) := by decide +kernel
theorem dL_addBarnacle_2 : decode cL_addBarnacle 2 = .ok (.aload_n 0, 1) := by decide +kernel
theorem dL_addBarnacle_3 : decode cL_addBarnacle 3 = .ok (.iload_n 1, 1) := by decide +kernel
theorem dL_addBarnacle_4 : decode cL_addBarnacle 4 = .ok (.iload_n 2, 1) := by decide +kernel
theorem dL_addBarnacle_5 : decode cL_addBarnacle 5 = .ok (.invokevirtual 17, 3) := by decide +kernel
theorem dL_addBarnacle_8 : decode cL_addBarnacle 8 = .ok (.i2l, 1) := by decide +kernel
theorem dL_addBarnacle_9 : decode cL_addBarnacle 9 = .ok (.lastore, 1) := by decide +kernel
theorem dL_addBarnacle_10 : decode cL_addBarnacle 10 = .ok (.goto 15, 3) := by decide +kernel
theorem dL_addBarnacle_13 : decode cL_addBarnacle 13 = .ok (.astore 4, 2) := by decide +kernel
theorem dL_addBarnacle_15 : decode cL_addBarnacle 15 = .ok (.iconst 1, 1) := by decide +kernel
theorem dL_addBarnacle_16 : decode cL_addBarnacle 16 = .ok (.ireturn, 1) := by decide +kernel
theorem dL_addBarnacle_17 : decode cL_addBarnacle 17 = .ok (.astore 4, 2) := by decide +kernel
theorem dL_addBarnacle_19 : decode cL_addBarnacle 19 = .ok (.iconst 2, 1) := by decide +kernel
theorem dL_addBarnacle_20 : decode cL_addBarnacle 20 = .ok (.ireturn, 1) := by decide +kernel
theorem dL_addBarnacle_21 : decode cL_addBarnacle 21 = .ok (.astore 4, 2) := by decide +kernel
theorem dL_addBarnacle_23 : decode cL_addBarnacle 23 = .ok (.iconst 3, 1) := by decide +kernel
theorem dL_addBarnacle_24 : decode cL_addBarnacle 24 = .ok (.ireturn, 1) := by decide +kernel
theorem dL_addBarnacle_25 : decode cL_addBarnacle 25 = .ok (.iconst 0, 1) := by decide +kernel
theorem dL_addBarnacle_26 : decode cL_addBarnacle 26 = .ok (.ireturn, 1) := by decide +kernel
theorem dL_giveCoins_0 : decode cL_giveCoins 0 = .ok (.aload_n 3, 1) := by decide +kernel
theorem dL_giveCoins_1 : decode cL_giveCoins 1 = .ok (.iconst 0, 1) := by decide +kernel
theorem dL_giveCoins_2 : decode cL_giveCoins 2 = .ok (.aload_n 0, 1) := by decide +kernel
theorem dL_giveCoins_3 : decode cL_giveCoins 3 = .ok (.iload_n 1, 1) := by decide +kernel
theorem dL_giveCoins_4 : decode cL_giveCoins 4 = .ok (.iload_n 2, 1) := by decide +kernel
theorem dL_giveCoins_5 : decode cL_giveCoins 5 = .ok (.invokevirtual 22, 3) := by decide +kernel
theorem dL_giveCoins_8 : decode cL_giveCoins 8 = .ok (.i2l, 1) := by decide +kernel
theorem dL_giveCoins_9 : decode cL_giveCoins 9 = .ok (.lastore, 1) := by decide +kernel
theorem dL_giveCoins_10 : decode cL_giveCoins 10 = .ok (.goto 11, 3) := by decide +kernel
theorem dL_giveCoins_13 : decode cL_giveCoins 13 = .ok (.astore 4, 2) := by decide +kernel
theorem dL_giveCoins_15 : decode cL_giveCoins 15 = .ok (.iconst 1, 1) := by decide +kernel
theorem dL_giveCoins_16 : decode cL_giveCoins 16 = .ok (.ireturn, 1) := by decide +kernel
theorem dL_giveCoins_17 : decode cL_giveCoins 17 = .ok (.astore 4, 2) := by decide +kernel
theorem dL_giveCoins_19 : decode cL_giveCoins 19 = .ok (.iconst 2, 1) := by decide +kernel
theorem dL_giveCoins_20 : decode cL_giveCoins 20 = .ok (.ireturn, 1) := by decide +kernel
theorem dL_giveCoins_21 : decode cL_giveCoins 21 = .ok (.iconst 0, 1) := by decide +kernel
theorem dL_giveCoins_22 : decode cL_giveCoins 22 = .ok (.ireturn, 1) := by decide +kernel
theorem dL_coinsOf_0 : decode cL_coinsOf 0 = .ok (.aload_n 2, 1) := by decide +kernel
theorem dL_coinsOf_1 : decode cL_coinsOf 1 = .ok (.iconst 0, 1) := by decide +kernel
theorem dL_coinsOf_2 : decode cL_coinsOf 2 = .ok (.aload_n 0, 1) := by decide +kernel
theorem dL_coinsOf_3 : decode cL_coinsOf 3 = .ok (.iload_n 1, 1) := by decide +kernel
theorem dL_coinsOf_4 : decode cL_coinsOf 4 = .ok (.invokevirtual 25, 3) := by decide +kernel
theorem dL_coinsOf_7 : decode cL_coinsOf 7 = .ok (.i2l, 1) := by decide +kernel
theorem dL_coinsOf_8 : decode cL_coinsOf 8 = .ok (.lastore, 1) := by decide +kernel
theorem dL_coinsOf_9 : decode cL_coinsOf 9 = .ok (.goto 6, 3) := by decide +kernel
theorem dL_coinsOf_12 : decode cL_coinsOf 12 = .ok (.astore_n 3, 1) := by decide +kernel
theorem dL_coinsOf_13 : decode cL_coinsOf 13 = .ok (.iconst 1, 1) := by decide +kernel
theorem dL_coinsOf_14 : decode cL_coinsOf 14 = .ok (.ireturn, 1) := by decide +kernel
theorem dL_coinsOf_15 : decode cL_coinsOf 15 = .ok (.iconst 0, 1) := by decide +kernel
theorem dL_coinsOf_16 : decode cL_coinsOf 16 = .ok (.ireturn, 1) := by decide +kernel
theorem dL_reservedCoins_0 : decode cL_reservedCoins 0 = .ok (.aload_n 2, 1) := by decide +kernel
theorem dL_reservedCoins_1 : decode cL_reservedCoins 1 = .ok (.iconst 0, 1) := by decide +kernel
theorem dL_reservedCoins_2 : decode cL_reservedCoins 2 = .ok (.aload_n 0, 1) := by decide +kernel
theorem dL_reservedCoins_3 : decode cL_reservedCoins 3 = .ok (.iload_n 1, 1) := by decide +kernel
theorem dL_reservedCoins_4 : decode cL_reservedCoins 4 = .ok (.invokevirtual 29, 3) := by decide +kernel
theorem dL_reservedCoins_7 : decode cL_reservedCoins 7 = .ok (.i2l, 1) := by decide +kernel
theorem dL_reservedCoins_8 : decode cL_reservedCoins 8 = .ok (.lastore, 1) := by decide +kernel
theorem dL_reservedCoins_9 : decode cL_reservedCoins 9 = .ok (.goto 6, 3) := by decide +kernel
theorem dL_reservedCoins_12 : decode cL_reservedCoins 12 = .ok (.astore_n 3, 1) := by decide +kernel
theorem dL_reservedCoins_13 : decode cL_reservedCoins 13 = .ok (.iconst 1, 1) := by decide +kernel
theorem dL_reservedCoins_14 : decode cL_reservedCoins 14 = .ok (.ireturn, 1) := by decide +kernel
theorem dL_reservedCoins_15 : decode cL_reservedCoins 15 = .ok (.iconst 0, 1) := by decide +kernel
theorem dL_reservedCoins_16 : decode cL_reservedCoins 16 = .ok (.ireturn, 1) := by decide +kernel
theorem dL_capacityOf_0 : decode cL_capacityOf 0 = .ok (.aload_n 2, 1) := by decide +kernel
theorem dL_capacityOf_1 : decode cL_capacityOf 1 = .ok (.iconst 0, 1) := by decide +kernel
theorem dL_capacityOf_2 : decode cL_capacityOf 2 = .ok (.aload_n 0, 1) := by decide +kernel
theorem dL_capacityOf_3 : decode cL_capacityOf 3 = .ok (.iload_n 1, 1) := by decide +kernel
theorem dL_capacityOf_4 : decode cL_capacityOf 4 = .ok (.invokevirtual 32, 3) := by decide +kernel
theorem dL_capacityOf_7 : decode cL_capacityOf 7 = .ok (.i2l, 1) := by decide +kernel
theorem dL_capacityOf_8 : decode cL_capacityOf 8 = .ok (.lastore, 1) := by decide +kernel
theorem dL_capacityOf_9 : decode cL_capacityOf 9 = .ok (.goto 6, 3) := by decide +kernel
theorem dL_capacityOf_12 : decode cL_capacityOf 12 = .ok (.astore_n 3, 1) := by decide +kernel
theorem dL_capacityOf_13 : decode cL_capacityOf 13 = .ok (.iconst 1, 1) := by decide +kernel
theorem dL_capacityOf_14 : decode cL_capacityOf 14 = .ok (.ireturn, 1) := by decide +kernel
theorem dL_capacityOf_15 : decode cL_capacityOf 15 = .ok (.iconst 0, 1) := by decide +kernel
theorem dL_capacityOf_16 : decode cL_capacityOf 16 = .ok (.ireturn, 1) := by decide +kernel
theorem dL_loadOf_0 : decode cL_loadOf 0 = .ok (.aload_n 2, 1) := by decide +kernel
theorem dL_loadOf_1 : decode cL_loadOf 1 = .ok (.iconst 0, 1) := by decide +kernel
theorem dL_loadOf_2 : decode cL_loadOf 2 = .ok (.aload_n 0, 1) := by decide +kernel
theorem dL_loadOf_3 : decode cL_loadOf 3 = .ok (.iload_n 1, 1) := by decide +kernel
theorem dL_loadOf_4 : decode cL_loadOf 4 = .ok (.invokevirtual 35, 3) := by decide +kernel
theorem dL_loadOf_7 : decode cL_loadOf 7 = .ok (.i2l, 1) := by decide +kernel
theorem dL_loadOf_8 : decode cL_loadOf 8 = .ok (.lastore, 1) := by decide +kernel
theorem dL_loadOf_9 : decode cL_loadOf 9 = .ok (.goto 6, 3) := by decide +kernel
theorem dL_loadOf_12 : decode cL_loadOf 12 = .ok (.astore_n 3, 1) := by decide +kernel
theorem dL_loadOf_13 : decode cL_loadOf 13 = .ok (.iconst 1, 1) := by decide +kernel
theorem dL_loadOf_14 : decode cL_loadOf 14 = .ok (.ireturn, 1) := by decide +kernel
theorem dL_loadOf_15 : decode cL_loadOf 15 = .ok (.iconst 0, 1) := by decide +kernel
theorem dL_loadOf_16 : decode cL_loadOf 16 = .ok (.ireturn, 1) := by decide +kernel
theorem dL_freePlaces_0 : decode cL_freePlaces 0 = .ok (.aload_n 2, 1) := by decide +kernel
theorem dL_freePlaces_1 : decode cL_freePlaces 1 = .ok (.iconst 0, 1) := by decide +kernel
theorem dL_freePlaces_2 : decode cL_freePlaces 2 = .ok (.aload_n 0, 1) := by decide +kernel
theorem dL_freePlaces_3 : decode cL_freePlaces 3 = .ok (.iload_n 1, 1) := by decide +kernel
theorem dL_freePlaces_4 : decode cL_freePlaces 4 = .ok (.invokevirtual 38, 3) := by decide +kernel
theorem dL_freePlaces_7 : decode cL_freePlaces 7 = .ok (.i2l, 1) := by decide +kernel
theorem dL_freePlaces_8 : decode cL_freePlaces 8 = .ok (.lastore, 1) := by decide +kernel
theorem dL_freePlaces_9 : decode cL_freePlaces 9 = .ok (.goto 6, 3) := by decide +kernel
theorem dL_freePlaces_12 : decode cL_freePlaces 12 = .ok (.astore_n 3, 1) := by decide +kernel
theorem dL_freePlaces_13 : decode cL_freePlaces 13 = .ok (.iconst 1, 1) := by decide +kernel
theorem dL_freePlaces_14 : decode cL_freePlaces 14 = .ok (.ireturn, 1) := by decide +kernel
theorem dL_freePlaces_15 : decode cL_freePlaces 15 = .ok (.iconst 0, 1) := by decide +kernel
theorem dL_freePlaces_16 : decode cL_freePlaces 16 = .ok (.ireturn, 1) := by decide +kernel
theorem dL_barnacleAt_0 : decode cL_barnacleAt 0 = .ok (.aload_n 3, 1) := by decide +kernel
theorem dL_barnacleAt_1 : decode cL_barnacleAt 1 = .ok (.iconst 0, 1) := by decide +kernel
theorem dL_barnacleAt_2 : decode cL_barnacleAt 2 = .ok (.aload_n 0, 1) := by decide +kernel
theorem dL_barnacleAt_3 : decode cL_barnacleAt 3 = .ok (.iload_n 1, 1) := by decide +kernel
theorem dL_barnacleAt_4 : decode cL_barnacleAt 4 = .ok (.iload_n 2, 1) := by decide +kernel
theorem dL_barnacleAt_5 : decode cL_barnacleAt 5 = .ok (.invokevirtual 41, 3) := by decide +kernel
theorem dL_barnacleAt_8 : decode cL_barnacleAt 8 = .ok (.i2l, 1) := by decide +kernel
theorem dL_barnacleAt_9 : decode cL_barnacleAt 9 = .ok (.lastore, 1) := by decide +kernel
theorem dL_barnacleAt_10 : decode cL_barnacleAt 10 = .ok (.goto 11, 3) := by decide +kernel
theorem dL_barnacleAt_13 : decode cL_barnacleAt 13 = .ok (.astore 4, 2) := by decide +kernel
theorem dL_barnacleAt_15 : decode cL_barnacleAt 15 = .ok (.iconst 1, 1) := by decide +kernel
theorem dL_barnacleAt_16 : decode cL_barnacleAt 16 = .ok (.ireturn, 1) := by decide +kernel
theorem dL_barnacleAt_17 : decode cL_barnacleAt 17 = .ok (.astore 4, 2) := by decide +kernel
theorem dL_barnacleAt_19 : decode cL_barnacleAt 19 = .ok (.iconst 2, 1) := by decide +kernel
theorem dL_barnacleAt_20 : decode cL_barnacleAt 20 = .ok (.ireturn, 1) := by decide +kernel
theorem dL_barnacleAt_21 : decode cL_barnacleAt 21 = .ok (.iconst 0, 1) := by decide +kernel
theorem dL_barnacleAt_22 : decode cL_barnacleAt 22 = .ok (.ireturn, 1) := by decide +kernel
theorem dL_shipOf_0 : decode cL_shipOf 0 = .ok (.aload_n 2, 1) := by decide +kernel
theorem dL_shipOf_1 : decode cL_shipOf 1 = .ok (.iconst 0, 1) := by decide +kernel
theorem dL_shipOf_2 : decode cL_shipOf 2 = .ok (.aload_n 0, 1) := by decide +kernel
theorem dL_shipOf_3 : decode cL_shipOf 3 = .ok (.iload_n 1, 1) := by decide +kernel
theorem dL_shipOf_4 : decode cL_shipOf 4 = .ok (.invokevirtual 46, 3) := by decide +kernel
theorem dL_shipOf_7 : decode cL_shipOf 7 = .ok (.i2l, 1) := by decide +kernel
theorem dL_shipOf_8 : decode cL_shipOf 8 = .ok (.lastore, 1) := by decide +kernel
theorem dL_shipOf_9 : decode cL_shipOf 9 = .ok (.goto 6, 3) := by decide +kernel
theorem dL_shipOf_12 : decode cL_shipOf 12 = .ok (.astore_n 3, 1) := by decide +kernel
theorem dL_shipOf_13 : decode cL_shipOf 13 = .ok (.iconst 1, 1) := by decide +kernel
theorem dL_shipOf_14 : decode cL_shipOf 14 = .ok (.ireturn, 1) := by decide +kernel
theorem dL_shipOf_15 : decode cL_shipOf 15 = .ok (.iconst 0, 1) := by decide +kernel
theorem dL_shipOf_16 : decode cL_shipOf 16 = .ok (.ireturn, 1) := by decide +kernel
theorem dL_gradeOf_0 : decode cL_gradeOf 0 = .ok (.aload_n 2, 1) := by decide +kernel
theorem dL_gradeOf_1 : decode cL_gradeOf 1 = .ok (.iconst 0, 1) := by decide +kernel
theorem dL_gradeOf_2 : decode cL_gradeOf 2 = .ok (.aload_n 0, 1) := by decide +kernel
theorem dL_gradeOf_3 : decode cL_gradeOf 3 = .ok (.iload_n 1, 1) := by decide +kernel
theorem dL_gradeOf_4 : decode cL_gradeOf 4 = .ok (.invokevirtual 49, 3) := by decide +kernel
theorem dL_gradeOf_7 : decode cL_gradeOf 7 = .ok (.i2l, 1) := by decide +kernel
theorem dL_gradeOf_8 : decode cL_gradeOf 8 = .ok (.lastore, 1) := by decide +kernel
theorem dL_gradeOf_9 : decode cL_gradeOf 9 = .ok (.goto 6, 3) := by decide +kernel
theorem dL_gradeOf_12 : decode cL_gradeOf 12 = .ok (.astore_n 3, 1) := by decide +kernel
theorem dL_gradeOf_13 : decode cL_gradeOf 13 = .ok (.iconst 1, 1) := by decide +kernel
theorem dL_gradeOf_14 : decode cL_gradeOf 14 = .ok (.ireturn, 1) := by decide +kernel
theorem dL_gradeOf_15 : decode cL_gradeOf 15 = .ok (.iconst 0, 1) := by decide +kernel
theorem dL_gradeOf_16 : decode cL_gradeOf 16 = .ok (.ireturn, 1) := by decide +kernel
theorem dL_isOffered_0 : decode cL_isOffered 0 = .ok (.aload_n 2, 1) := by decide +kernel
theorem dL_isOffered_1 : decode cL_isOffered 1 = .ok (.iconst 0, 1) := by decide +kernel
theorem dL_isOffered_2 : decode cL_isOffered 2 = .ok (.aload_n 0, 1) := by decide +kernel
theorem dL_isOffered_3 : decode cL_isOffered 3 = .ok (.iload_n 1, 1) := by decide +kernel
theorem dL_isOffered_4 : decode cL_isOffered 4 = .ok (.invokevirtual 52, 3) := by decide +kernel
theorem dL_isOffered_7 : decode cL_isOffered 7 = .ok (.ifCond .eq 7, 3) := by decide +kernel
theorem dL_isOffered_10 : decode cL_isOffered 10 = .ok (.lconst 1, 1) := by decide +kernel
theorem dL_isOffered_11 : decode cL_isOffered 11 = .ok (.goto 4, 3) := by decide +kernel
theorem dL_isOffered_14 : decode cL_isOffered 14 = .ok (.lconst 0, 1) := by decide +kernel
theorem dL_isOffered_15 : decode cL_isOffered 15 = .ok (.lastore, 1) := by decide +kernel
theorem dL_isOffered_16 : decode cL_isOffered 16 = .ok (.goto 6, 3) := by decide +kernel
theorem dL_isOffered_19 : decode cL_isOffered 19 = .ok (.astore_n 3, 1) := by decide +kernel
theorem dL_isOffered_20 : decode cL_isOffered 20 = .ok (.iconst 1, 1) := by decide +kernel
theorem dL_isOffered_21 : decode cL_isOffered 21 = .ok (.ireturn, 1) := by decide +kernel
theorem dL_isOffered_22 : decode cL_isOffered 22 = .ok (.iconst 0, 1) := by decide +kernel
theorem dL_isOffered_23 : decode cL_isOffered 23 = .ok (.ireturn, 1) := by decide +kernel
theorem dL_placeBid_0 : decode cL_placeBid 0 = .ok (.aload 4, 2) := by decide +kernel
theorem dL_placeBid_2 : decode cL_placeBid 2 = .ok (.iconst 0, 1) := by decide +kernel
theorem dL_placeBid_3 : decode cL_placeBid 3 = .ok (.aload_n 0, 1) := by decide +kernel
theorem dL_placeBid_4 : decode cL_placeBid 4 = .ok (.iload_n 1, 1) := by decide +kernel
theorem dL_placeBid_5 : decode cL_placeBid 5 = .ok (.iload_n 2, 1) := by decide +kernel
theorem dL_placeBid_6 : decode cL_placeBid 6 = .ok (.iload_n 3, 1) := by decide +kernel
theorem dL_placeBid_7 : decode cL_placeBid 7 = .ok (.invokevirtual 56, 3) := by decide +kernel
theorem dL_placeBid_10 : decode cL_placeBid 10 = .ok (.i2l, 1) := by decide +kernel
theorem dL_placeBid_11 : decode cL_placeBid 11 = .ok (.lastore, 1) := by decide +kernel
theorem dL_placeBid_12 : decode cL_placeBid 12 = .ok (.goto 15, 3) := by decide +kernel
theorem dL_placeBid_15 : decode cL_placeBid 15 = .ok (.astore 5, 2) := by decide +kernel
theorem dL_placeBid_17 : decode cL_placeBid 17 = .ok (.iconst 1, 1) := by decide +kernel
theorem dL_placeBid_18 : decode cL_placeBid 18 = .ok (.ireturn, 1) := by decide +kernel
theorem dL_placeBid_19 : decode cL_placeBid 19 = .ok (.astore 5, 2) := by decide +kernel
theorem dL_placeBid_21 : decode cL_placeBid 21 = .ok (.iconst 2, 1) := by decide +kernel
theorem dL_placeBid_22 : decode cL_placeBid 22 = .ok (.ireturn, 1) := by decide +kernel
theorem dL_placeBid_23 : decode cL_placeBid 23 = .ok (.astore 5, 2) := by decide +kernel
theorem dL_placeBid_25 : decode cL_placeBid 25 = .ok (.iconst 3, 1) := by decide +kernel
theorem dL_placeBid_26 : decode cL_placeBid 26 = .ok (.ireturn, 1) := by decide +kernel
theorem dL_placeBid_27 : decode cL_placeBid 27 = .ok (.iconst 0, 1) := by decide +kernel
theorem dL_placeBid_28 : decode cL_placeBid 28 = .ok (.ireturn, 1) := by decide +kernel
theorem dL_placeOffer_0 : decode cL_placeOffer 0 = .ok (.aload_n 3, 1) := by decide +kernel
theorem dL_placeOffer_1 : decode cL_placeOffer 1 = .ok (.iconst 0, 1) := by decide +kernel
theorem dL_placeOffer_2 : decode cL_placeOffer 2 = .ok (.aload_n 0, 1) := by decide +kernel
theorem dL_placeOffer_3 : decode cL_placeOffer 3 = .ok (.iload_n 1, 1) := by decide +kernel
theorem dL_placeOffer_4 : decode cL_placeOffer 4 = .ok (.iload_n 2, 1) := by decide +kernel
theorem dL_placeOffer_5 : decode cL_placeOffer 5 = .ok (.invokevirtual 60, 3) := by decide +kernel
theorem dL_placeOffer_8 : decode cL_placeOffer 8 = .ok (.i2l, 1) := by decide +kernel
theorem dL_placeOffer_9 : decode cL_placeOffer 9 = .ok (.lastore, 1) := by decide +kernel
theorem dL_placeOffer_10 : decode cL_placeOffer 10 = .ok (.goto 15, 3) := by decide +kernel
theorem dL_placeOffer_13 : decode cL_placeOffer 13 = .ok (.astore 4, 2) := by decide +kernel
theorem dL_placeOffer_15 : decode cL_placeOffer 15 = .ok (.iconst 1, 1) := by decide +kernel
theorem dL_placeOffer_16 : decode cL_placeOffer 16 = .ok (.ireturn, 1) := by decide +kernel
theorem dL_placeOffer_17 : decode cL_placeOffer 17 = .ok (.astore 4, 2) := by decide +kernel
theorem dL_placeOffer_19 : decode cL_placeOffer 19 = .ok (.iconst 2, 1) := by decide +kernel
theorem dL_placeOffer_20 : decode cL_placeOffer 20 = .ok (.ireturn, 1) := by decide +kernel
theorem dL_placeOffer_21 : decode cL_placeOffer 21 = .ok (.astore 4, 2) := by decide +kernel
theorem dL_placeOffer_23 : decode cL_placeOffer 23 = .ok (.iconst 3, 1) := by decide +kernel
theorem dL_placeOffer_24 : decode cL_placeOffer 24 = .ok (.ireturn, 1) := by decide +kernel
theorem dL_placeOffer_25 : decode cL_placeOffer 25 = .ok (.iconst 0, 1) := by decide +kernel
theorem dL_placeOffer_26 : decode cL_placeOffer 26 = .ok (.ireturn, 1) := by decide +kernel
theorem dL_cancelBid_0 : decode cL_cancelBid 0 = .ok (.aload_n 2, 1) := by decide +kernel
theorem dL_cancelBid_1 : decode cL_cancelBid 1 = .ok (.iconst 0, 1) := by decide +kernel
theorem dL_cancelBid_2 : decode cL_cancelBid 2 = .ok (.aload_n 0, 1) := by decide +kernel
theorem dL_cancelBid_3 : decode cL_cancelBid 3 = .ok (.iload_n 1, 1) := by decide +kernel
theorem dL_cancelBid_4 : decode cL_cancelBid 4 = .ok (.invokevirtual 63, 3) := by decide +kernel
theorem dL_cancelBid_7 : decode cL_cancelBid 7 = .ok (.i2l, 1) := by decide +kernel
theorem dL_cancelBid_8 : decode cL_cancelBid 8 = .ok (.lastore, 1) := by decide +kernel
theorem dL_cancelBid_9 : decode cL_cancelBid 9 = .ok (.goto 6, 3) := by decide +kernel
theorem dL_cancelBid_12 : decode cL_cancelBid 12 = .ok (.astore_n 3, 1) := by decide +kernel
theorem dL_cancelBid_13 : decode cL_cancelBid 13 = .ok (.iconst 1, 1) := by decide +kernel
theorem dL_cancelBid_14 : decode cL_cancelBid 14 = .ok (.ireturn, 1) := by decide +kernel
theorem dL_cancelBid_15 : decode cL_cancelBid 15 = .ok (.iconst 0, 1) := by decide +kernel
theorem dL_cancelBid_16 : decode cL_cancelBid 16 = .ok (.ireturn, 1) := by decide +kernel
theorem dL_cancelOffer_0 : decode cL_cancelOffer 0 = .ok (.aload_n 2, 1) := by decide +kernel
theorem dL_cancelOffer_1 : decode cL_cancelOffer 1 = .ok (.iconst 0, 1) := by decide +kernel
theorem dL_cancelOffer_2 : decode cL_cancelOffer 2 = .ok (.aload_n 0, 1) := by decide +kernel
theorem dL_cancelOffer_3 : decode cL_cancelOffer 3 = .ok (.iload_n 1, 1) := by decide +kernel
theorem dL_cancelOffer_4 : decode cL_cancelOffer 4 = .ok (.invokevirtual 66, 3) := by decide +kernel
theorem dL_cancelOffer_7 : decode cL_cancelOffer 7 = .ok (.i2l, 1) := by decide +kernel
theorem dL_cancelOffer_8 : decode cL_cancelOffer 8 = .ok (.lastore, 1) := by decide +kernel
theorem dL_cancelOffer_9 : decode cL_cancelOffer 9 = .ok (.goto 6, 3) := by decide +kernel
theorem dL_cancelOffer_12 : decode cL_cancelOffer 12 = .ok (.astore_n 3, 1) := by decide +kernel
theorem dL_cancelOffer_13 : decode cL_cancelOffer 13 = .ok (.iconst 1, 1) := by decide +kernel
theorem dL_cancelOffer_14 : decode cL_cancelOffer 14 = .ok (.ireturn, 1) := by decide +kernel
theorem dL_cancelOffer_15 : decode cL_cancelOffer 15 = .ok (.iconst 0, 1) := by decide +kernel
theorem dL_cancelOffer_16 : decode cL_cancelOffer 16 = .ok (.ireturn, 1) := by decide +kernel
theorem dL_bidAt_0 : decode cL_bidAt 0 = .ok (.aload_n 2, 1) := by decide +kernel
theorem dL_bidAt_1 : decode cL_bidAt 1 = .ok (.iconst 0, 1) := by decide +kernel
theorem dL_bidAt_2 : decode cL_bidAt 2 = .ok (.aload_n 0, 1) := by decide +kernel
theorem dL_bidAt_3 : decode cL_bidAt 3 = .ok (.iload_n 1, 1) := by decide +kernel
theorem dL_bidAt_4 : decode cL_bidAt 4 = .ok (.invokevirtual 69, 3) := by decide +kernel
theorem dL_bidAt_7 : decode cL_bidAt 7 = .ok (.i2l, 1) := by decide +kernel
theorem dL_bidAt_8 : decode cL_bidAt 8 = .ok (.lastore, 1) := by decide +kernel
theorem dL_bidAt_9 : decode cL_bidAt 9 = .ok (.goto 6, 3) := by decide +kernel
theorem dL_bidAt_12 : decode cL_bidAt 12 = .ok (.astore_n 3, 1) := by decide +kernel
theorem dL_bidAt_13 : decode cL_bidAt 13 = .ok (.iconst 1, 1) := by decide +kernel
theorem dL_bidAt_14 : decode cL_bidAt 14 = .ok (.ireturn, 1) := by decide +kernel
theorem dL_bidAt_15 : decode cL_bidAt 15 = .ok (.iconst 0, 1) := by decide +kernel
theorem dL_bidAt_16 : decode cL_bidAt 16 = .ok (.ireturn, 1) := by decide +kernel
theorem dL_offerAt_0 : decode cL_offerAt 0 = .ok (.aload_n 2, 1) := by decide +kernel
theorem dL_offerAt_1 : decode cL_offerAt 1 = .ok (.iconst 0, 1) := by decide +kernel
theorem dL_offerAt_2 : decode cL_offerAt 2 = .ok (.aload_n 0, 1) := by decide +kernel
theorem dL_offerAt_3 : decode cL_offerAt 3 = .ok (.iload_n 1, 1) := by decide +kernel
theorem dL_offerAt_4 : decode cL_offerAt 4 = .ok (.invokevirtual 72, 3) := by decide +kernel
theorem dL_offerAt_7 : decode cL_offerAt 7 = .ok (.i2l, 1) := by decide +kernel
theorem dL_offerAt_8 : decode cL_offerAt 8 = .ok (.lastore, 1) := by decide +kernel
theorem dL_offerAt_9 : decode cL_offerAt 9 = .ok (.goto 6, 3) := by decide +kernel
theorem dL_offerAt_12 : decode cL_offerAt 12 = .ok (.astore_n 3, 1) := by decide +kernel
theorem dL_offerAt_13 : decode cL_offerAt 13 = .ok (.iconst 1, 1) := by decide +kernel
theorem dL_offerAt_14 : decode cL_offerAt 14 = .ok (.ireturn, 1) := by decide +kernel
theorem dL_offerAt_15 : decode cL_offerAt 15 = .ok (.iconst 0, 1) := by decide +kernel
theorem dL_offerAt_16 : decode cL_offerAt 16 = .ok (.ireturn, 1) := by decide +kernel
theorem dL_shipOfBid_0 : decode cL_shipOfBid 0 = .ok (.aload_n 2, 1) := by decide +kernel
theorem dL_shipOfBid_1 : decode cL_shipOfBid 1 = .ok (.iconst 0, 1) := by decide +kernel
theorem dL_shipOfBid_2 : decode cL_shipOfBid 2 = .ok (.aload_n 0, 1) := by decide +kernel
theorem dL_shipOfBid_3 : decode cL_shipOfBid 3 = .ok (.iload_n 1, 1) := by decide +kernel
theorem dL_shipOfBid_4 : decode cL_shipOfBid 4 = .ok (.invokevirtual 75, 3) := by decide +kernel
theorem dL_shipOfBid_7 : decode cL_shipOfBid 7 = .ok (.i2l, 1) := by decide +kernel
theorem dL_shipOfBid_8 : decode cL_shipOfBid 8 = .ok (.lastore, 1) := by decide +kernel
theorem dL_shipOfBid_9 : decode cL_shipOfBid 9 = .ok (.goto 6, 3) := by decide +kernel
theorem dL_shipOfBid_12 : decode cL_shipOfBid 12 = .ok (.astore_n 3, 1) := by decide +kernel
theorem dL_shipOfBid_13 : decode cL_shipOfBid 13 = .ok (.iconst 1, 1) := by decide +kernel
theorem dL_shipOfBid_14 : decode cL_shipOfBid 14 = .ok (.ireturn, 1) := by decide +kernel
theorem dL_shipOfBid_15 : decode cL_shipOfBid 15 = .ok (.iconst 0, 1) := by decide +kernel
theorem dL_shipOfBid_16 : decode cL_shipOfBid 16 = .ok (.ireturn, 1) := by decide +kernel
theorem dL_gradeOfBid_0 : decode cL_gradeOfBid 0 = .ok (.aload_n 2, 1) := by decide +kernel
theorem dL_gradeOfBid_1 : decode cL_gradeOfBid 1 = .ok (.iconst 0, 1) := by decide +kernel
theorem dL_gradeOfBid_2 : decode cL_gradeOfBid 2 = .ok (.aload_n 0, 1) := by decide +kernel
theorem dL_gradeOfBid_3 : decode cL_gradeOfBid 3 = .ok (.iload_n 1, 1) := by decide +kernel
theorem dL_gradeOfBid_4 : decode cL_gradeOfBid 4 = .ok (.invokevirtual 78, 3) := by decide +kernel
theorem dL_gradeOfBid_7 : decode cL_gradeOfBid 7 = .ok (.i2l, 1) := by decide +kernel
theorem dL_gradeOfBid_8 : decode cL_gradeOfBid 8 = .ok (.lastore, 1) := by decide +kernel
theorem dL_gradeOfBid_9 : decode cL_gradeOfBid 9 = .ok (.goto 6, 3) := by decide +kernel
theorem dL_gradeOfBid_12 : decode cL_gradeOfBid 12 = .ok (.astore_n 3, 1) := by decide +kernel
theorem dL_gradeOfBid_13 : decode cL_gradeOfBid 13 = .ok (.iconst 1, 1) := by decide +kernel
theorem dL_gradeOfBid_14 : decode cL_gradeOfBid 14 = .ok (.ireturn, 1) := by decide +kernel
theorem dL_gradeOfBid_15 : decode cL_gradeOfBid 15 = .ok (.iconst 0, 1) := by decide +kernel
theorem dL_gradeOfBid_16 : decode cL_gradeOfBid 16 = .ok (.ireturn, 1) := by decide +kernel
theorem dL_priceOfBid_0 : decode cL_priceOfBid 0 = .ok (.aload_n 2, 1) := by decide +kernel
theorem dL_priceOfBid_1 : decode cL_priceOfBid 1 = .ok (.iconst 0, 1) := by decide +kernel
theorem dL_priceOfBid_2 : decode cL_priceOfBid 2 = .ok (.aload_n 0, 1) := by decide +kernel
theorem dL_priceOfBid_3 : decode cL_priceOfBid 3 = .ok (.iload_n 1, 1) := by decide +kernel
theorem dL_priceOfBid_4 : decode cL_priceOfBid 4 = .ok (.invokevirtual 81, 3) := by decide +kernel
theorem dL_priceOfBid_7 : decode cL_priceOfBid 7 = .ok (.i2l, 1) := by decide +kernel
theorem dL_priceOfBid_8 : decode cL_priceOfBid 8 = .ok (.lastore, 1) := by decide +kernel
theorem dL_priceOfBid_9 : decode cL_priceOfBid 9 = .ok (.goto 6, 3) := by decide +kernel
theorem dL_priceOfBid_12 : decode cL_priceOfBid 12 = .ok (.astore_n 3, 1) := by decide +kernel
theorem dL_priceOfBid_13 : decode cL_priceOfBid 13 = .ok (.iconst 1, 1) := by decide +kernel
theorem dL_priceOfBid_14 : decode cL_priceOfBid 14 = .ok (.ireturn, 1) := by decide +kernel
theorem dL_priceOfBid_15 : decode cL_priceOfBid 15 = .ok (.iconst 0, 1) := by decide +kernel
theorem dL_priceOfBid_16 : decode cL_priceOfBid 16 = .ok (.ireturn, 1) := by decide +kernel
theorem dL_ageOfBid_0 : decode cL_ageOfBid 0 = .ok (.aload_n 2, 1) := by decide +kernel
theorem dL_ageOfBid_1 : decode cL_ageOfBid 1 = .ok (.iconst 0, 1) := by decide +kernel
theorem dL_ageOfBid_2 : decode cL_ageOfBid 2 = .ok (.aload_n 0, 1) := by decide +kernel
theorem dL_ageOfBid_3 : decode cL_ageOfBid 3 = .ok (.iload_n 1, 1) := by decide +kernel
theorem dL_ageOfBid_4 : decode cL_ageOfBid 4 = .ok (.invokevirtual 84, 3) := by decide +kernel
theorem dL_ageOfBid_7 : decode cL_ageOfBid 7 = .ok (.i2l, 1) := by decide +kernel
theorem dL_ageOfBid_8 : decode cL_ageOfBid 8 = .ok (.lastore, 1) := by decide +kernel
theorem dL_ageOfBid_9 : decode cL_ageOfBid 9 = .ok (.goto 6, 3) := by decide +kernel
theorem dL_ageOfBid_12 : decode cL_ageOfBid 12 = .ok (.astore_n 3, 1) := by decide +kernel
theorem dL_ageOfBid_13 : decode cL_ageOfBid 13 = .ok (.iconst 1, 1) := by decide +kernel
theorem dL_ageOfBid_14 : decode cL_ageOfBid 14 = .ok (.ireturn, 1) := by decide +kernel
theorem dL_ageOfBid_15 : decode cL_ageOfBid 15 = .ok (.iconst 0, 1) := by decide +kernel
theorem dL_ageOfBid_16 : decode cL_ageOfBid 16 = .ok (.ireturn, 1) := by decide +kernel
theorem dL_barnacleOfOffer_0 : decode cL_barnacleOfOffer 0 = .ok (.aload_n 2, 1) := by decide +kernel
theorem dL_barnacleOfOffer_1 : decode cL_barnacleOfOffer 1 = .ok (.iconst 0, 1) := by decide +kernel
theorem dL_barnacleOfOffer_2 : decode cL_barnacleOfOffer 2 = .ok (.aload_n 0, 1) := by decide +kernel
theorem dL_barnacleOfOffer_3 : decode cL_barnacleOfOffer 3 = .ok (.iload_n 1, 1) := by decide +kernel
theorem dL_barnacleOfOffer_4 : decode cL_barnacleOfOffer 4 = .ok (.invokevirtual 87, 3) := by decide +kernel
theorem dL_barnacleOfOffer_7 : decode cL_barnacleOfOffer 7 = .ok (.i2l, 1) := by decide +kernel
theorem dL_barnacleOfOffer_8 : decode cL_barnacleOfOffer 8 = .ok (.lastore, 1) := by decide +kernel
theorem dL_barnacleOfOffer_9 : decode cL_barnacleOfOffer 9 = .ok (.goto 6, 3) := by decide +kernel
theorem dL_barnacleOfOffer_12 : decode cL_barnacleOfOffer 12 = .ok (.astore_n 3, 1) := by decide +kernel
theorem dL_barnacleOfOffer_13 : decode cL_barnacleOfOffer 13 = .ok (.iconst 1, 1) := by decide +kernel
theorem dL_barnacleOfOffer_14 : decode cL_barnacleOfOffer 14 = .ok (.ireturn, 1) := by decide +kernel
theorem dL_barnacleOfOffer_15 : decode cL_barnacleOfOffer 15 = .ok (.iconst 0, 1) := by decide +kernel
theorem dL_barnacleOfOffer_16 : decode cL_barnacleOfOffer 16 = .ok (.ireturn, 1) := by decide +kernel
theorem dL_priceOfOffer_0 : decode cL_priceOfOffer 0 = .ok (.aload_n 2, 1) := by decide +kernel
theorem dL_priceOfOffer_1 : decode cL_priceOfOffer 1 = .ok (.iconst 0, 1) := by decide +kernel
theorem dL_priceOfOffer_2 : decode cL_priceOfOffer 2 = .ok (.aload_n 0, 1) := by decide +kernel
theorem dL_priceOfOffer_3 : decode cL_priceOfOffer 3 = .ok (.iload_n 1, 1) := by decide +kernel
theorem dL_priceOfOffer_4 : decode cL_priceOfOffer 4 = .ok (.invokevirtual 90, 3) := by decide +kernel
theorem dL_priceOfOffer_7 : decode cL_priceOfOffer 7 = .ok (.i2l, 1) := by decide +kernel
theorem dL_priceOfOffer_8 : decode cL_priceOfOffer 8 = .ok (.lastore, 1) := by decide +kernel
theorem dL_priceOfOffer_9 : decode cL_priceOfOffer 9 = .ok (.goto 6, 3) := by decide +kernel
theorem dL_priceOfOffer_12 : decode cL_priceOfOffer 12 = .ok (.astore_n 3, 1) := by decide +kernel
theorem dL_priceOfOffer_13 : decode cL_priceOfOffer 13 = .ok (.iconst 1, 1) := by decide +kernel
theorem dL_priceOfOffer_14 : decode cL_priceOfOffer 14 = .ok (.ireturn, 1) := by decide +kernel
theorem dL_priceOfOffer_15 : decode cL_priceOfOffer 15 = .ok (.iconst 0, 1) := by decide +kernel
theorem dL_priceOfOffer_16 : decode cL_priceOfOffer 16 = .ok (.ireturn, 1) := by decide +kernel
theorem dL_ageOfOffer_0 : decode cL_ageOfOffer 0 = .ok (.aload_n 2, 1) := by decide +kernel
theorem dL_ageOfOffer_1 : decode cL_ageOfOffer 1 = .ok (.iconst 0, 1) := by decide +kernel
theorem dL_ageOfOffer_2 : decode cL_ageOfOffer 2 = .ok (.aload_n 0, 1) := by decide +kernel
theorem dL_ageOfOffer_3 : decode cL_ageOfOffer 3 = .ok (.iload_n 1, 1) := by decide +kernel
theorem dL_ageOfOffer_4 : decode cL_ageOfOffer 4 = .ok (.invokevirtual 93, 3) := by decide +kernel
theorem dL_ageOfOffer_7 : decode cL_ageOfOffer 7 = .ok (.i2l, 1) := by decide +kernel
theorem dL_ageOfOffer_8 : decode cL_ageOfOffer 8 = .ok (.lastore, 1) := by decide +kernel
theorem dL_ageOfOffer_9 : decode cL_ageOfOffer 9 = .ok (.goto 6, 3) := by decide +kernel
theorem dL_ageOfOffer_12 : decode cL_ageOfOffer 12 = .ok (.astore_n 3, 1) := by decide +kernel
theorem dL_ageOfOffer_13 : decode cL_ageOfOffer 13 = .ok (.iconst 1, 1) := by decide +kernel
theorem dL_ageOfOffer_14 : decode cL_ageOfOffer 14 = .ok (.ireturn, 1) := by decide +kernel
theorem dL_ageOfOffer_15 : decode cL_ageOfOffer 15 = .ok (.iconst 0, 1) := by decide +kernel
theorem dL_ageOfOffer_16 : decode cL_ageOfOffer 16 = .ok (.ireturn, 1) := by decide +kernel
theorem dL_matchFor_0 : decode cL_matchFor 0 = .ok (.aload_n 2, 1) := by decide +kernel
theorem dL_matchFor_1 : decode cL_matchFor 1 = .ok (.iconst 0, 1) := by decide +kernel
theorem dL_matchFor_2 : decode cL_matchFor 2 = .ok (.aload_n 0, 1) := by decide +kernel
theorem dL_matchFor_3 : decode cL_matchFor 3 = .ok (.iload_n 1, 1) := by decide +kernel
theorem dL_matchFor_4 : decode cL_matchFor 4 = .ok (.invokevirtual 96, 3) := by decide +kernel
theorem dL_matchFor_7 : decode cL_matchFor 7 = .ok (.i2l, 1) := by decide +kernel
theorem dL_matchFor_8 : decode cL_matchFor 8 = .ok (.lastore, 1) := by decide +kernel
theorem dL_matchFor_9 : decode cL_matchFor 9 = .ok (.goto 6, 3) := by decide +kernel
theorem dL_matchFor_12 : decode cL_matchFor 12 = .ok (.astore_n 3, 1) := by decide +kernel
theorem dL_matchFor_13 : decode cL_matchFor 13 = .ok (.iconst 1, 1) := by decide +kernel
theorem dL_matchFor_14 : decode cL_matchFor 14 = .ok (.ireturn, 1) := by decide +kernel
theorem dL_matchFor_15 : decode cL_matchFor 15 = .ok (.iconst 0, 1) := by decide +kernel
theorem dL_matchFor_16 : decode cL_matchFor 16 = .ok (.ireturn, 1) := by decide +kernel
theorem dL_matchByBarnacles_0 : decode cL_matchByBarnacles 0 = .ok (.aload_n 2, 1) := by decide +kernel
theorem dL_matchByBarnacles_1 : decode cL_matchByBarnacles 1 = .ok (.iconst 0, 1) := by decide +kernel
theorem dL_matchByBarnacles_2 : decode cL_matchByBarnacles 2 = .ok (.aload_n 0, 1) := by decide +kernel
theorem dL_matchByBarnacles_3 : decode cL_matchByBarnacles 3 = .ok (.iload_n 1, 1) := by decide +kernel
theorem dL_matchByBarnacles_4 : decode cL_matchByBarnacles 4 = .ok (.invokevirtual 99, 3) := by decide +kernel
theorem dL_matchByBarnacles_7 : decode cL_matchByBarnacles 7 = .ok (.i2l, 1) := by decide +kernel
theorem dL_matchByBarnacles_8 : decode cL_matchByBarnacles 8 = .ok (.lastore, 1) := by decide +kernel
theorem dL_matchByBarnacles_9 : decode cL_matchByBarnacles 9 = .ok (.goto 6, 3) := by decide +kernel
theorem dL_matchByBarnacles_12 : decode cL_matchByBarnacles 12 = .ok (.astore_n 3, 1) := by decide +kernel
theorem dL_matchByBarnacles_13 : decode cL_matchByBarnacles 13 = .ok (.iconst 1, 1) := by decide +kernel
theorem dL_matchByBarnacles_14 : decode cL_matchByBarnacles 14 = .ok (.ireturn, 1) := by decide +kernel
theorem dL_matchByBarnacles_15 : decode cL_matchByBarnacles 15 = .ok (.iconst 0, 1) := by decide +kernel
theorem dL_matchByBarnacles_16 : decode cL_matchByBarnacles 16 = .ok (.ireturn, 1) := by decide +kernel
theorem dL_spread_0 : decode cL_spread 0 = .ok (.aload_n 1, 1) := by decide +kernel
theorem dL_spread_1 : decode cL_spread 1 = .ok (.iconst 0, 1) := by decide +kernel
theorem dL_spread_2 : decode cL_spread 2 = .ok (.aload_n 0, 1) := by decide +kernel
theorem dL_spread_3 : decode cL_spread 3 = .ok (.invokevirtual 102, 3) := by decide +kernel
theorem dL_spread_6 : decode cL_spread 6 = .ok (.i2l, 1) := by decide +kernel
theorem dL_spread_7 : decode cL_spread 7 = .ok (.lastore, 1) := by decide +kernel
theorem dL_spread_8 : decode cL_spread 8 = .ok (.goto 6, 3) := by decide +kernel
theorem dL_spread_11 : decode cL_spread 11 = .ok (.astore_n 2, 1) := by decide +kernel
theorem dL_spread_12 : decode cL_spread 12 = .ok (.iconst 1, 1) := by decide +kernel
theorem dL_spread_13 : decode cL_spread 13 = .ok (.ireturn, 1) := by decide +kernel
theorem dL_spread_14 : decode cL_spread 14 = .ok (.iconst 0, 1) := by decide +kernel
theorem dL_spread_15 : decode cL_spread 15 = .ok (.ireturn, 1) := by decide +kernel
theorem dL_setFee_0 : decode cL_setFee 0 = .ok (.aload_n 2, 1) := by decide +kernel
theorem dL_setFee_1 : decode cL_setFee 1 = .ok (.iconst 0, 1) := by decide +kernel
theorem dL_setFee_2 : decode cL_setFee 2 = .ok (.aload_n 0, 1) := by decide +kernel
theorem dL_setFee_3 : decode cL_setFee 3 = .ok (.iload_n 1, 1) := by decide +kernel
theorem dL_setFee_4 : decode cL_setFee 4 = .ok (.invokevirtual 106, 3) := by decide +kernel
theorem dL_setFee_7 : decode cL_setFee 7 = .ok (.i2l, 1) := by decide +kernel
theorem dL_setFee_8 : decode cL_setFee 8 = .ok (.lastore, 1) := by decide +kernel
theorem dL_setFee_9 : decode cL_setFee 9 = .ok (.goto 6, 3) := by decide +kernel
theorem dL_setFee_12 : decode cL_setFee 12 = .ok (.astore_n 3, 1) := by decide +kernel
theorem dL_setFee_13 : decode cL_setFee 13 = .ok (.iconst 1, 1) := by decide +kernel
theorem dL_setFee_14 : decode cL_setFee 14 = .ok (.ireturn, 1) := by decide +kernel
theorem dL_setFee_15 : decode cL_setFee 15 = .ok (.iconst 0, 1) := by decide +kernel
theorem dL_setFee_16 : decode cL_setFee 16 = .ok (.ireturn, 1) := by decide +kernel
theorem dL_buyerOf_0 : decode cL_buyerOf 0 = .ok (.aload_n 2, 1) := by decide +kernel
theorem dL_buyerOf_1 : decode cL_buyerOf 1 = .ok (.iconst 0, 1) := by decide +kernel
theorem dL_buyerOf_2 : decode cL_buyerOf 2 = .ok (.aload_n 0, 1) := by decide +kernel
theorem dL_buyerOf_3 : decode cL_buyerOf 3 = .ok (.iload_n 1, 1) := by decide +kernel
theorem dL_buyerOf_4 : decode cL_buyerOf 4 = .ok (.invokevirtual 109, 3) := by decide +kernel
theorem dL_buyerOf_7 : decode cL_buyerOf 7 = .ok (.i2l, 1) := by decide +kernel
theorem dL_buyerOf_8 : decode cL_buyerOf 8 = .ok (.lastore, 1) := by decide +kernel
theorem dL_buyerOf_9 : decode cL_buyerOf 9 = .ok (.goto 6, 3) := by decide +kernel
theorem dL_buyerOf_12 : decode cL_buyerOf 12 = .ok (.astore_n 3, 1) := by decide +kernel
theorem dL_buyerOf_13 : decode cL_buyerOf 13 = .ok (.iconst 1, 1) := by decide +kernel
theorem dL_buyerOf_14 : decode cL_buyerOf 14 = .ok (.ireturn, 1) := by decide +kernel
theorem dL_buyerOf_15 : decode cL_buyerOf 15 = .ok (.iconst 0, 1) := by decide +kernel
theorem dL_buyerOf_16 : decode cL_buyerOf 16 = .ok (.ireturn, 1) := by decide +kernel
theorem dL_sellerOf_0 : decode cL_sellerOf 0 = .ok (.aload_n 2, 1) := by decide +kernel
theorem dL_sellerOf_1 : decode cL_sellerOf 1 = .ok (.iconst 0, 1) := by decide +kernel
theorem dL_sellerOf_2 : decode cL_sellerOf 2 = .ok (.aload_n 0, 1) := by decide +kernel
theorem dL_sellerOf_3 : decode cL_sellerOf 3 = .ok (.iload_n 1, 1) := by decide +kernel
theorem dL_sellerOf_4 : decode cL_sellerOf 4 = .ok (.invokevirtual 112, 3) := by decide +kernel
theorem dL_sellerOf_7 : decode cL_sellerOf 7 = .ok (.i2l, 1) := by decide +kernel
theorem dL_sellerOf_8 : decode cL_sellerOf 8 = .ok (.lastore, 1) := by decide +kernel
theorem dL_sellerOf_9 : decode cL_sellerOf 9 = .ok (.goto 6, 3) := by decide +kernel
theorem dL_sellerOf_12 : decode cL_sellerOf 12 = .ok (.astore_n 3, 1) := by decide +kernel
theorem dL_sellerOf_13 : decode cL_sellerOf 13 = .ok (.iconst 1, 1) := by decide +kernel
theorem dL_sellerOf_14 : decode cL_sellerOf 14 = .ok (.ireturn, 1) := by decide +kernel
theorem dL_sellerOf_15 : decode cL_sellerOf 15 = .ok (.iconst 0, 1) := by decide +kernel
theorem dL_sellerOf_16 : decode cL_sellerOf 16 = .ok (.ireturn, 1) := by decide +kernel
theorem dL_barnacleOf_0 : decode cL_barnacleOf 0 = .ok (.aload_n 2, 1) := by decide +kernel
theorem dL_barnacleOf_1 : decode cL_barnacleOf 1 = .ok (.iconst 0, 1) := by decide +kernel
theorem dL_barnacleOf_2 : decode cL_barnacleOf 2 = .ok (.aload_n 0, 1) := by decide +kernel
theorem dL_barnacleOf_3 : decode cL_barnacleOf 3 = .ok (.iload_n 1, 1) := by decide +kernel
theorem dL_barnacleOf_4 : decode cL_barnacleOf 4 = .ok (.invokevirtual 115, 3) := by decide +kernel
theorem dL_barnacleOf_7 : decode cL_barnacleOf 7 = .ok (.i2l, 1) := by decide +kernel
theorem dL_barnacleOf_8 : decode cL_barnacleOf 8 = .ok (.lastore, 1) := by decide +kernel
theorem dL_barnacleOf_9 : decode cL_barnacleOf 9 = .ok (.goto 6, 3) := by decide +kernel
theorem dL_barnacleOf_12 : decode cL_barnacleOf 12 = .ok (.astore_n 3, 1) := by decide +kernel
theorem dL_barnacleOf_13 : decode cL_barnacleOf 13 = .ok (.iconst 1, 1) := by decide +kernel
theorem dL_barnacleOf_14 : decode cL_barnacleOf 14 = .ok (.ireturn, 1) := by decide +kernel
theorem dL_barnacleOf_15 : decode cL_barnacleOf 15 = .ok (.iconst 0, 1) := by decide +kernel
theorem dL_barnacleOf_16 : decode cL_barnacleOf 16 = .ok (.ireturn, 1) := by decide +kernel
theorem dL_priceOf_0 : decode cL_priceOf 0 = .ok (.aload_n 2, 1) := by decide +kernel
theorem dL_priceOf_1 : decode cL_priceOf 1 = .ok (.iconst 0, 1) := by decide +kernel
theorem dL_priceOf_2 : decode cL_priceOf 2 = .ok (.aload_n 0, 1) := by decide +kernel
theorem dL_priceOf_3 : decode cL_priceOf 3 = .ok (.iload_n 1, 1) := by decide +kernel
theorem dL_priceOf_4 : decode cL_priceOf 4 = .ok (.invokevirtual 118, 3) := by decide +kernel
theorem dL_priceOf_7 : decode cL_priceOf 7 = .ok (.i2l, 1) := by decide +kernel
theorem dL_priceOf_8 : decode cL_priceOf 8 = .ok (.lastore, 1) := by decide +kernel
theorem dL_priceOf_9 : decode cL_priceOf 9 = .ok (.goto 6, 3) := by decide +kernel
theorem dL_priceOf_12 : decode cL_priceOf 12 = .ok (.astore_n 3, 1) := by decide +kernel
theorem dL_priceOf_13 : decode cL_priceOf 13 = .ok (.iconst 1, 1) := by decide +kernel
theorem dL_priceOf_14 : decode cL_priceOf 14 = .ok (.ireturn, 1) := by decide +kernel
theorem dL_priceOf_15 : decode cL_priceOf 15 = .ok (.iconst 0, 1) := by decide +kernel
theorem dL_priceOf_16 : decode cL_priceOf 16 = .ok (.ireturn, 1) := by decide +kernel
theorem dL_shipByWealth_0 : decode cL_shipByWealth 0 = .ok (.aload_n 2, 1) := by decide +kernel
theorem dL_shipByWealth_1 : decode cL_shipByWealth 1 = .ok (.iconst 0, 1) := by decide +kernel
theorem dL_shipByWealth_2 : decode cL_shipByWealth 2 = .ok (.aload_n 0, 1) := by decide +kernel
theorem dL_shipByWealth_3 : decode cL_shipByWealth 3 = .ok (.iload_n 1, 1) := by decide +kernel
theorem dL_shipByWealth_4 : decode cL_shipByWealth 4 = .ok (.invokevirtual 121, 3) := by decide +kernel
theorem dL_shipByWealth_7 : decode cL_shipByWealth 7 = .ok (.i2l, 1) := by decide +kernel
theorem dL_shipByWealth_8 : decode cL_shipByWealth 8 = .ok (.lastore, 1) := by decide +kernel
theorem dL_shipByWealth_9 : decode cL_shipByWealth 9 = .ok (.goto 6, 3) := by decide +kernel
theorem dL_shipByWealth_12 : decode cL_shipByWealth 12 = .ok (.astore_n 3, 1) := by decide +kernel
theorem dL_shipByWealth_13 : decode cL_shipByWealth 13 = .ok (.iconst 1, 1) := by decide +kernel
theorem dL_shipByWealth_14 : decode cL_shipByWealth 14 = .ok (.ireturn, 1) := by decide +kernel
theorem dL_shipByWealth_15 : decode cL_shipByWealth 15 = .ok (.iconst 0, 1) := by decide +kernel
theorem dL_shipByWealth_16 : decode cL_shipByWealth 16 = .ok (.ireturn, 1) := by decide +kernel
theorem dL_meanPrice_0 : decode cL_meanPrice 0 = .ok (.aload_n 1, 1) := by decide +kernel
theorem dL_meanPrice_1 : decode cL_meanPrice 1 = .ok (.iconst 0, 1) := by decide +kernel
theorem dL_meanPrice_2 : decode cL_meanPrice 2 = .ok (.aload_n 0, 1) := by decide +kernel
theorem dL_meanPrice_3 : decode cL_meanPrice 3 = .ok (.invokevirtual 124, 3) := by decide +kernel
theorem dL_meanPrice_6 : decode cL_meanPrice 6 = .ok (.dastore, 1) := by decide +kernel
theorem dL_meanPrice_7 : decode cL_meanPrice 7 = .ok (.goto 6, 3) := by decide +kernel
theorem dL_meanPrice_10 : decode cL_meanPrice 10 = .ok (.astore_n 2, 1) := by decide +kernel
theorem dL_meanPrice_11 : decode cL_meanPrice 11 = .ok (.iconst 1, 1) := by decide +kernel
theorem dL_meanPrice_12 : decode cL_meanPrice 12 = .ok (.ireturn, 1) := by decide +kernel
theorem dL_meanPrice_13 : decode cL_meanPrice 13 = .ok (.iconst 0, 1) := by decide +kernel
theorem dL_meanPrice_14 : decode cL_meanPrice 14 = .ok (.ireturn, 1) := by decide +kernel
theorem dL_offeredShare_0 : decode cL_offeredShare 0 = .ok (.aload_n 1, 1) := by decide +kernel
theorem dL_offeredShare_1 : decode cL_offeredShare 1 = .ok (.iconst 0, 1) := by decide +kernel
theorem dL_offeredShare_2 : decode cL_offeredShare 2 = .ok (.aload_n 0, 1) := by decide +kernel
theorem dL_offeredShare_3 : decode cL_offeredShare 3 = .ok (.invokevirtual 130, 3) := by decide +kernel
theorem dL_offeredShare_6 : decode cL_offeredShare 6 = .ok (.f2d, 1) := by decide +kernel
theorem dL_offeredShare_7 : decode cL_offeredShare 7 = .ok (.dastore, 1) := by decide +kernel
theorem dL_offeredShare_8 : decode cL_offeredShare 8 = .ok (.goto 6, 3) := by decide +kernel
theorem dL_offeredShare_11 : decode cL_offeredShare 11 = .ok (.astore_n 2, 1) := by decide +kernel
theorem dL_offeredShare_12 : decode cL_offeredShare 12 = .ok (.iconst 1, 1) := by decide +kernel
theorem dL_offeredShare_13 : decode cL_offeredShare 13 = .ok (.ireturn, 1) := by decide +kernel
theorem dL_offeredShare_14 : decode cL_offeredShare 14 = .ok (.iconst 0, 1) := by decide +kernel
theorem dL_offeredShare_15 : decode cL_offeredShare 15 = .ok (.ireturn, 1) := by decide +kernel
theorem dL_writeShip_0 : decode cL_writeShip 0 = .ok (.aload_n 2, 1) := by decide +kernel
theorem dL_writeShip_1 : decode cL_writeShip 1 = .ok (.iconst 0, 1) := by decide +kernel
theorem dL_writeShip_2 : decode cL_writeShip 2 = .ok (.aload_n 0, 1) := by decide +kernel
theorem dL_writeShip_3 : decode cL_writeShip 3 = .ok (.iload_n 1, 1) := by decide +kernel
theorem dL_writeShip_4 : decode cL_writeShip 4 = .ok (.invokevirtual 134, 3) := by decide +kernel
theorem dL_writeShip_7 : decode cL_writeShip 7 = .ok (.i2l, 1) := by decide +kernel
theorem dL_writeShip_8 : decode cL_writeShip 8 = .ok (.lastore, 1) := by decide +kernel
theorem dL_writeShip_9 : decode cL_writeShip 9 = .ok (.goto 6, 3) := by decide +kernel
theorem dL_writeShip_12 : decode cL_writeShip 12 = .ok (.astore_n 3, 1) := by decide +kernel
theorem dL_writeShip_13 : decode cL_writeShip 13 = .ok (.iconst 1, 1) := by decide +kernel
theorem dL_writeShip_14 : decode cL_writeShip 14 = .ok (.ireturn, 1) := by decide +kernel
theorem dL_writeShip_15 : decode cL_writeShip 15 = .ok (.iconst 0, 1) := by decide +kernel
theorem dL_writeShip_16 : decode cL_writeShip 16 = .ok (.ireturn, 1) := by decide +kernel
theorem dL_outputAt_0 : decode cL_outputAt 0 = .ok (.aload_n 2, 1) := by decide +kernel
theorem dL_outputAt_1 : decode cL_outputAt 1 = .ok (.iconst 0, 1) := by decide +kernel
theorem dL_outputAt_2 : decode cL_outputAt 2 = .ok (.aload_n 0, 1) := by decide +kernel
theorem dL_outputAt_3 : decode cL_outputAt 3 = .ok (.iload_n 1, 1) := by decide +kernel
theorem dL_outputAt_4 : decode cL_outputAt 4 = .ok (.invokevirtual 137, 3) := by decide +kernel
theorem dL_outputAt_7 : decode cL_outputAt 7 = .ok (.i2l, 1) := by decide +kernel
theorem dL_outputAt_8 : decode cL_outputAt 8 = .ok (.lastore, 1) := by decide +kernel
theorem dL_outputAt_9 : decode cL_outputAt 9 = .ok (.goto 6, 3) := by decide +kernel
theorem dL_outputAt_12 : decode cL_outputAt 12 = .ok (.astore_n 3, 1) := by decide +kernel
theorem dL_outputAt_13 : decode cL_outputAt 13 = .ok (.iconst 1, 1) := by decide +kernel
theorem dL_outputAt_14 : decode cL_outputAt 14 = .ok (.ireturn, 1) := by decide +kernel
theorem dL_outputAt_15 : decode cL_outputAt 15 = .ok (.iconst 0, 1) := by decide +kernel
theorem dL_outputAt_16 : decode cL_outputAt 16 = .ok (.ireturn, 1) := by decide +kernel
theorem dL_appendInput_0 : decode cL_appendInput 0 = .ok (.aload_n 2, 1) := by decide +kernel
theorem dL_appendInput_1 : decode cL_appendInput 1 = .ok (.iconst 0, 1) := by decide +kernel
theorem dL_appendInput_2 : decode cL_appendInput 2 = .ok (.aload_n 0, 1) := by decide +kernel
theorem dL_appendInput_3 : decode cL_appendInput 3 = .ok (.iload_n 1, 1) := by decide +kernel
theorem dL_appendInput_4 : decode cL_appendInput 4 = .ok (.invokevirtual 141, 3) := by decide +kernel
theorem dL_appendInput_7 : decode cL_appendInput 7 = .ok (.i2l, 1) := by decide +kernel
theorem dL_appendInput_8 : decode cL_appendInput 8 = .ok (.lastore, 1) := by decide +kernel
theorem dL_appendInput_9 : decode cL_appendInput 9 = .ok (.goto 9, 3) := by decide +kernel
theorem dL_appendInput_12 : decode cL_appendInput 12 = .ok (.astore_n 3, 1) := by decide +kernel
theorem dL_appendInput_13 : decode cL_appendInput 13 = .ok (.iconst 1, 1) := by decide +kernel
theorem dL_appendInput_14 : decode cL_appendInput 14 = .ok (.ireturn, 1) := by decide +kernel
theorem dL_appendInput_15 : decode cL_appendInput 15 = .ok (.astore_n 3, 1) := by decide +kernel
theorem dL_appendInput_16 : decode cL_appendInput 16 = .ok (.iconst 2, 1) := by decide +kernel
theorem dL_appendInput_17 : decode cL_appendInput 17 = .ok (.ireturn, 1) := by decide +kernel
theorem dL_appendInput_18 : decode cL_appendInput 18 = .ok (.iconst 0, 1) := by decide +kernel
theorem dL_appendInput_19 : decode cL_appendInput 19 = .ok (.ireturn, 1) := by decide +kernel
theorem dL_execute_0 : decode cL_execute 0 = .ok (.aload_n 1, 1) := by decide +kernel
theorem dL_execute_1 : decode cL_execute 1 = .ok (.iconst 0, 1) := by decide +kernel
theorem dL_execute_2 : decode cL_execute 2 = .ok (.aload_n 0, 1) := by decide +kernel
theorem dL_execute_3 : decode cL_execute 3 = .ok (.invokevirtual 147, 3) := by decide +kernel
theorem dL_execute_6 : decode cL_execute 6 = .ok (.i2l, 1) := by decide +kernel
theorem dL_execute_7 : decode cL_execute 7 = .ok (.lastore, 1) := by decide +kernel
theorem dL_execute_8 : decode cL_execute 8 = .ok (.goto 12, 3) := by decide +kernel
theorem dL_execute_11 : decode cL_execute 11 = .ok (.astore_n 2, 1) := by decide +kernel
theorem dL_execute_12 : decode cL_execute 12 = .ok (.iconst 1, 1) := by decide +kernel
theorem dL_execute_13 : decode cL_execute 13 = .ok (.ireturn, 1) := by decide +kernel
theorem dL_execute_14 : decode cL_execute 14 = .ok (.astore_n 2, 1) := by decide +kernel
theorem dL_execute_15 : decode cL_execute 15 = .ok (.iconst 2, 1) := by decide +kernel
theorem dL_execute_16 : decode cL_execute 16 = .ok (.ireturn, 1) := by decide +kernel
theorem dL_execute_17 : decode cL_execute 17 = .ok (.astore_n 2, 1) := by decide +kernel
theorem dL_execute_18 : decode cL_execute 18 = .ok (.iconst 3, 1) := by decide +kernel
theorem dL_execute_19 : decode cL_execute 19 = .ok (.ireturn, 1) := by decide +kernel
theorem dL_execute_20 : decode cL_execute 20 = .ok (.iconst 0, 1) := by decide +kernel
theorem dL_execute_21 : decode cL_execute 21 = .ok (.ireturn, 1) := by decide +kernel
theorem dL_syntaxErrorOffset_0 : decode cL_syntaxErrorOffset 0 = .ok (.aload_n 1, 1) := by decide +kernel
theorem dL_syntaxErrorOffset_1 : decode cL_syntaxErrorOffset 1 = .ok (.iconst 0, 1) := by decide +kernel
theorem dL_syntaxErrorOffset_2 : decode cL_syntaxErrorOffset 2 = .ok (.aload_n 0, 1) := by decide +kernel
theorem dL_syntaxErrorOffset_3 : decode cL_syntaxErrorOffset 3 = .ok (.invokevirtual 150, 3) := by decide +kernel
theorem dL_syntaxErrorOffset_6 : decode cL_syntaxErrorOffset 6 = .ok (.i2l, 1) := by decide +kernel
theorem dL_syntaxErrorOffset_7 : decode cL_syntaxErrorOffset 7 = .ok (.lastore, 1) := by decide +kernel
theorem dL_syntaxErrorOffset_8 : decode cL_syntaxErrorOffset 8 = .ok (.goto 6, 3) := by decide +kernel
theorem dL_syntaxErrorOffset_11 : decode cL_syntaxErrorOffset 11 = .ok (.astore_n 2, 1) := by decide +kernel
theorem dL_syntaxErrorOffset_12 : decode cL_syntaxErrorOffset 12 = .ok (.iconst 1, 1) := by decide +kernel
theorem dL_syntaxErrorOffset_13 : decode cL_syntaxErrorOffset 13 = .ok (.ireturn, 1) := by decide +kernel
theorem dL_syntaxErrorOffset_14 : decode cL_syntaxErrorOffset 14 = .ok (.iconst 0, 1) := by decide +kernel
theorem dL_syntaxErrorOffset_15 : decode cL_syntaxErrorOffset 15 = .ok (.ireturn, 1) := by decide +kernel
theorem dL_rejectionReason_0 : decode cL_rejectionReason 0 = .ok (.aload_n 1, 1) := by decide +kernel
theorem dL_rejectionReason_1 : decode cL_rejectionReason 1 = .ok (.iconst 0, 1) := by decide +kernel
theorem dL_rejectionReason_2 : decode cL_rejectionReason 2 = .ok (.aload_n 0, 1) := by decide +kernel
theorem dL_rejectionReason_3 : decode cL_rejectionReason 3 = .ok (.invokevirtual 153, 3) := by decide +kernel
theorem dL_rejectionReason_6 : decode cL_rejectionReason 6 = .ok (.i2l, 1) := by decide +kernel
theorem dL_rejectionReason_7 : decode cL_rejectionReason 7 = .ok (.lastore, 1) := by decide +kernel
theorem dL_rejectionReason_8 : decode cL_rejectionReason 8 = .ok (.goto 6, 3) := by decide +kernel
theorem dL_rejectionReason_11 : decode cL_rejectionReason 11 = .ok (.astore_n 2, 1) := by decide +kernel
theorem dL_rejectionReason_12 : decode cL_rejectionReason 12 = .ok (.iconst 1, 1) := by decide +kernel
theorem dL_rejectionReason_13 : decode cL_rejectionReason 13 = .ok (.ireturn, 1) := by decide +kernel
theorem dL_rejectionReason_14 : decode cL_rejectionReason 14 = .ok (.iconst 0, 1) := by decide +kernel
theorem dL_rejectionReason_15 : decode cL_rejectionReason 15 = .ok (.ireturn, 1) := by decide +kernel
theorem dL_rejectionDetail_0 : decode cL_rejectionDetail 0 = .ok (.aload_n 1, 1) := by decide +kernel
theorem dL_rejectionDetail_1 : decode cL_rejectionDetail 1 = .ok (.iconst 0, 1) := by decide +kernel
theorem dL_rejectionDetail_2 : decode cL_rejectionDetail 2 = .ok (.aload_n 0, 1) := by decide +kernel
theorem dL_rejectionDetail_3 : decode cL_rejectionDetail 3 = .ok (.invokevirtual 156, 3) := by decide +kernel
theorem dL_rejectionDetail_6 : decode cL_rejectionDetail 6 = .ok (.i2l, 1) := by decide +kernel
theorem dL_rejectionDetail_7 : decode cL_rejectionDetail 7 = .ok (.lastore, 1) := by decide +kernel
theorem dL_rejectionDetail_8 : decode cL_rejectionDetail 8 = .ok (.goto 6, 3) := by decide +kernel
theorem dL_rejectionDetail_11 : decode cL_rejectionDetail 11 = .ok (.astore_n 2, 1) := by decide +kernel
theorem dL_rejectionDetail_12 : decode cL_rejectionDetail 12 = .ok (.iconst 1, 1) := by decide +kernel
theorem dL_rejectionDetail_13 : decode cL_rejectionDetail 13 = .ok (.ireturn, 1) := by decide +kernel
theorem dL_rejectionDetail_14 : decode cL_rejectionDetail 14 = .ok (.iconst 0, 1) := by decide +kernel
theorem dL_rejectionDetail_15 : decode cL_rejectionDetail 15 = .ok (.ireturn, 1) := by decide +kernel
theorem dL_causeReason_0 : decode cL_causeReason 0 = .ok (.aload_n 1, 1) := by decide +kernel
theorem dL_causeReason_1 : decode cL_causeReason 1 = .ok (.iconst 0, 1) := by decide +kernel
theorem dL_causeReason_2 : decode cL_causeReason 2 = .ok (.aload_n 0, 1) := by decide +kernel
theorem dL_causeReason_3 : decode cL_causeReason 3 = .ok (.invokevirtual 159, 3) := by decide +kernel
theorem dL_causeReason_6 : decode cL_causeReason 6 = .ok (.i2l, 1) := by decide +kernel
theorem dL_causeReason_7 : decode cL_causeReason 7 = .ok (.lastore, 1) := by decide +kernel
theorem dL_causeReason_8 : decode cL_causeReason 8 = .ok (.goto 6, 3) := by decide +kernel
theorem dL_causeReason_11 : decode cL_causeReason 11 = .ok (.astore_n 2, 1) := by decide +kernel
theorem dL_causeReason_12 : decode cL_causeReason 12 = .ok (.iconst 1, 1) := by decide +kernel
theorem dL_causeReason_13 : decode cL_causeReason 13 = .ok (.ireturn, 1) := by decide +kernel
theorem dL_causeReason_14 : decode cL_causeReason 14 = .ok (.iconst 0, 1) := by decide +kernel
theorem dL_causeReason_15 : decode cL_causeReason 15 = .ok (.ireturn, 1) := by decide +kernel
theorem dL_undo_0 : decode cL_undo 0 = .ok (.aload_n 1, 1) := by decide +kernel
theorem dL_undo_1 : decode cL_undo 1 = .ok (.iconst 0, 1) := by decide +kernel
theorem dL_undo_2 : decode cL_undo 2 = .ok (.aload_n 0, 1) := by decide +kernel
theorem dL_undo_3 : decode cL_undo 3 = .ok (.invokevirtual 162, 3) := by decide +kernel
theorem dL_undo_6 : decode cL_undo 6 = .ok (.i2l, 1) := by decide +kernel
theorem dL_undo_7 : decode cL_undo 7 = .ok (.lastore, 1) := by decide +kernel
theorem dL_undo_8 : decode cL_undo 8 = .ok (.goto 6, 3) := by decide +kernel
theorem dL_undo_11 : decode cL_undo 11 = .ok (.astore_n 2, 1) := by decide +kernel
theorem dL_undo_12 : decode cL_undo 12 = .ok (.iconst 1, 1) := by decide +kernel
theorem dL_undo_13 : decode cL_undo 13 = .ok (.ireturn, 1) := by decide +kernel
theorem dL_undo_14 : decode cL_undo 14 = .ok (.iconst 0, 1) := by decide +kernel
theorem dL_undo_15 : decode cL_undo 15 = .ok (.ireturn, 1) := by decide +kernel
theorem dL_restoreSnapshot_0 : decode cL_restoreSnapshot 0 = .ok (.aload_n 1, 1) := by decide +kernel
theorem dL_restoreSnapshot_1 : decode cL_restoreSnapshot 1 = .ok (.iconst 0, 1) := by decide +kernel
theorem dL_restoreSnapshot_2 : decode cL_restoreSnapshot 2 = .ok (.aload_n 0, 1) := by decide +kernel
theorem dL_restoreSnapshot_3 : decode cL_restoreSnapshot 3 = .ok (.invokevirtual 165, 3) := by decide +kernel
theorem dL_restoreSnapshot_6 : decode cL_restoreSnapshot 6 = .ok (.i2l, 1) := by decide +kernel
theorem dL_restoreSnapshot_7 : decode cL_restoreSnapshot 7 = .ok (.lastore, 1) := by decide +kernel
theorem dL_restoreSnapshot_8 : decode cL_restoreSnapshot 8 = .ok (.goto 6, 3) := by decide +kernel
theorem dL_restoreSnapshot_11 : decode cL_restoreSnapshot 11 = .ok (.astore_n 2, 1) := by decide +kernel
theorem dL_restoreSnapshot_12 : decode cL_restoreSnapshot 12 = .ok (.iconst 1, 1) := by decide +kernel
theorem dL_restoreSnapshot_13 : decode cL_restoreSnapshot 13 = .ok (.ireturn, 1) := by decide +kernel
theorem dL_restoreSnapshot_14 : decode cL_restoreSnapshot 14 = .ok (.iconst 0, 1) := by decide +kernel
theorem dL_restoreSnapshot_15 : decode cL_restoreSnapshot 15 = .ok (.ireturn, 1) := by decide +kernel
