theorem dX8_reserveAt_1 : decode cX8_reserveAt 1 = .ok (.invokestatic 163, 3) := by decide +kernel
theorem dX8_reserveAt_4 : decode cX8_reserveAt 4 = .ok (.iload_n 2, 1) := by decide +kernel
theorem dX8_reserveAt_5 : decode cX8_reserveAt 5 = .ok (.iconst 0, 1) := by decide +kernel
theorem dX8_reserveAt_6 : decode cX8_reserveAt 6 = .ok (.sipush 999, 3) := by decide +kernel
theorem dX8_reserveAt_9 : decode cX8_reserveAt 9 = .ok (.invokestatic 83, 3) := by decide +kernel
theorem dX8_reserveAt_12 : decode cX8_reserveAt 12 = .ok (.iload_n 1, 1) := by decide +kernel
theorem dX8_reserveAt_13 : decode cX8_reserveAt 13 = .ok (.aload_n 0, 1) := by decide +kernel
theorem dX8_reserveAt_14 : decode cX8_reserveAt 14 = .ok (.getfield 10, 3) := by decide +kernel
theorem dX8_reserveAt_17 : decode cX8_reserveAt 17 = .ok (.iload_n 1, 1) := by decide +kernel
theorem dX8_reserveAt_18 : decode cX8_reserveAt 18 = .ok (.invokevirtual 207, 3) := by decide +kernel
theorem dX8_reserveAt_21 : decode cX8_reserveAt 21 = .ok (.iload_n 2, 1) := by decide +kernel
theorem dX8_reserveAt_22 : decode cX8_reserveAt 22 = .ok (.invokestatic 210, 3) := by decide +kernel
theorem dX8_reserveAt_25 : decode cX8_reserveAt 25 = .ok (.ireturn, 1) := by decide +kernel
theorem dX8_bidCount_0 : decode cX8_bidCount 0 = .ok (.iload_n 1, 1) := by decide +kernel
theorem dX8_bidCount_1 : decode cX8_bidCount 1 = .ok (.invokestatic 163, 3) := by decide +kernel
theorem dX8_bidCount_4 : decode cX8_bidCount 4 = .ok (.aload_n 0, 1) := by decide +kernel
theorem dX8_bidCount_5 : decode cX8_bidCount 5 = .ok (.getfield 22, 3) := by decide +kernel
theorem dX8_bidCount_8 : decode cX8_bidCount 8 = .ok (.aload_n 0, 1) := by decide +kernel
theorem dX8_bidCount_9 : decode cX8_bidCount 9 = .ok (.getfield 10, 3) := by decide +kernel
theorem dX8_bidCount_12 : decode cX8_bidCount 12 = .ok (.iload_n 1, 1) := by decide +kernel
theorem dX8_bidCount_13 : decode cX8_bidCount 13 = .ok (.invokevirtual 214, 3) := by decide +kernel
theorem dX8_bidCount_16 : decode cX8_bidCount 16 = .ok (.aload_n 0, 1) := by decide +kernel
theorem dX8_bidCount_17 : decode cX8_bidCount 17 = .ok (.getfield 22, 3) := by decide +kernel
theorem dX8_bidCount_20 : decode cX8_bidCount 20 = .ok (.getfield 218, 3) := by decide +kernel
theorem dX8_bidCount_23 : decode cX8_bidCount 23 = .ok (.ireturn, 1) := by decide +kernel
theorem dX8_tradeCount_0 : decode cX8_tradeCount 0 = .ok (.iload_n 1, 1) := by decide +kernel
theorem dX8_tradeCount_1 : decode cX8_tradeCount 1 = .ok (.invokestatic 163, 3) := by decide +kernel
theorem dX8_tradeCount_4 : decode cX8_tradeCount 4 = .ok (.aload_n 0, 1) := by decide +kernel
theorem dX8_tradeCount_5 : decode cX8_tradeCount 5 = .ok (.getfield 22, 3) := by decide +kernel
theorem dX8_tradeCount_8 : decode cX8_tradeCount 8 = .ok (.aload_n 0, 1) := by decide +kernel
theorem dX8_tradeCount_9 : decode cX8_tradeCount 9 = .ok (.getfield 10, 3) := by decide +kernel
theorem dX8_tradeCount_12 : decode cX8_tradeCount 12 = .ok (.iload_n 1, 1) := by decide +kernel
theorem dX8_tradeCount_13 : decode cX8_tradeCount 13 = .ok (.invokevirtual 214, 3) := by decide +kernel
theorem dX8_tradeCount_16 : decode cX8_tradeCount 16 = .ok (.aload_n 0, 1) := by decide +kernel
theorem dX8_tradeCount_17 : decode cX8_tradeCount 17 = .ok (.getfield 22, 3) := by decide +kernel
theorem dX8_tradeCount_20 : decode cX8_tradeCount 20 = .ok (.getfield 221, 3) := by decide +kernel
theorem dX8_tradeCount_23 : decode cX8_tradeCount 23 = .ok (.ireturn, 1) := by decide +kernel
theorem dX8_clearingPrice_0 : decode cX8_clearingPrice 0 = .ok (.iload_n 1, 1) := by decide +kernel
theorem dX8_clearingPrice_1 : decode cX8_clearingPrice 1 = .ok (.invokestatic 163, 3) := by decide +kernel
theorem dX8_clearingPrice_4 : decode cX8_clearingPrice 4 = .ok (.aload_n 0, 1) := by decide +kernel
theorem dX8_clearingPrice_5 : decode cX8_clearingPrice 5 = .ok (.getfield 22, 3) := by decide +kernel
theorem dX8_clearingPrice_8 : decode cX8_clearingPrice 8 = .ok (.aload_n 0, 1) := by decide +kernel
theorem dX8_clearingPrice_9 : decode cX8_clearingPrice 9 = .ok (.getfield 10, 3) := by decide +kernel
theorem dX8_clearingPrice_12 : decode cX8_clearingPrice 12 = .ok (.iload_n 1, 1) := by decide +kernel
theorem dX8_clearingPrice_13 : decode cX8_clearingPrice 13 = .ok (.invokevirtual 214, 3) := by decide +kernel
theorem dX8_clearingPrice_16 : decode cX8_clearingPrice 16 = .ok (.aload_n 0, 1) := by decide +kernel
theorem dX8_clearingPrice_17 : decode cX8_clearingPrice 17 = .ok (.getfield 22, 3) := by decide +kernel
theorem dX8_clearingPrice_20 : decode cX8_clearingPrice 20 = .ok (.getfield 221, 3) := by decide +kernel
theorem dX8_clearingPrice_23 : decode cX8_clearingPrice 23 = .ok (.ifCond .ne 7, 3) := by decide +kernel
theorem dX8_clearingPrice_26 : decode cX8_clearingPrice 26 = .ok (.iconst (-1), 1) := by decide +kernel
theorem dX8_clearingPrice_27 : decode cX8_clearingPrice 27 = .ok (.goto 10, 3) := by decide +kernel
theorem dX8_clearingPrice_30 : decode cX8_clearingPrice 30 = .ok (.aload_n 0, 1) := by decide +kernel
theorem dX8_clearingPrice_31 : decode cX8_clearingPrice 31 = .ok (.getfield 22, 3) := by decide +kernel
theorem dX8_clearingPrice_34 : decode cX8_clearingPrice 34 = .ok (.getfield 224, 3) := by decide +kernel
theorem dX8_clearingPrice_37 : decode cX8_clearingPrice 37 = .ok (.ireturn, 1) := by decide +kernel
theorem dX8_reasonNoTrades_0 : decode cX8_reasonNoTrades 0 = .ok (.iload_n 1, 1) := by decide +kernel
theorem dX8_reasonNoTrades_1 : decode cX8_reasonNoTrades 1 = .ok (.invokestatic 163, 3) := by decide +kernel
theorem dX8_reasonNoTrades_4 : decode cX8_reasonNoTrades 4 = .ok (.aload_n 0, 1) := by decide +kernel
theorem dX8_reasonNoTrades_5 : decode cX8_reasonNoTrades 5 = .ok (.getfield 22, 3) := by decide +kernel
theorem dX8_reasonNoTrades_8 : decode cX8_reasonNoTrades 8 = .ok (.aload_n 0, 1) := by decide +kernel
theorem dX8_reasonNoTrades_9 : decode cX8_reasonNoTrades 9 = .ok (.getfield 10, 3) := by decide +kernel
theorem dX8_reasonNoTrades_12 : decode cX8_reasonNoTrades 12 = .ok (.iload_n 1, 1) := by decide +kernel
theorem dX8_reasonNoTrades_13 : decode cX8_reasonNoTrades 13 = .ok (.invokevirtual 214, 3) := by decide +kernel
theorem dX8_reasonNoTrades_16 : decode cX8_reasonNoTrades 16 = .ok (.aload_n 0, 1) := by decide +kernel
theorem dX8_reasonNoTrades_17 : decode cX8_reasonNoTrades 17 = .ok (.getfield 22, 3) := by decide +kernel
theorem dX8_reasonNoTrades_20 : decode cX8_reasonNoTrades 20 = .ok (.invokevirtual 227, 3) := by decide +kernel
theorem dX8_reasonNoTrades_23 : decode cX8_reasonNoTrades 23 = .ok (.ireturn, 1) := by decide +kernel
theorem dX8_buyerOf_0 : decode cX8_buyerOf 0 = .ok (.iload_n 1, 1) := by decide +kernel
theorem dX8_buyerOf_1 : decode cX8_buyerOf 1 = .ok (.invokestatic 163, 3) := by decide +kernel
theorem dX8_buyerOf_4 : decode cX8_buyerOf 4 = .ok (.aload_n 0, 1) := by decide +kernel
theorem dX8_buyerOf_5 : decode cX8_buyerOf 5 = .ok (.getfield 22, 3) := by decide +kernel
theorem dX8_buyerOf_8 : decode cX8_buyerOf 8 = .ok (.aload_n 0, 1) := by decide +kernel
theorem dX8_buyerOf_9 : decode cX8_buyerOf 9 = .ok (.getfield 10, 3) := by decide +kernel
theorem dX8_buyerOf_12 : decode cX8_buyerOf 12 = .ok (.iload_n 1, 1) := by decide +kernel
theorem dX8_buyerOf_13 : decode cX8_buyerOf 13 = .ok (.invokevirtual 214, 3) := by decide +kernel
theorem dX8_buyerOf_16 : decode cX8_buyerOf 16 = .ok (.aload_n 0, 1) := by decide +kernel
theorem dX8_buyerOf_17 : decode cX8_buyerOf 17 = .ok (.iload_n 2, 1) := by decide +kernel
theorem dX8_buyerOf_18 : decode cX8_buyerOf 18 = .ok (.invokevirtual 230, 3) := by decide +kernel
theorem dX8_buyerOf_21 : decode cX8_buyerOf 21 = .ok (.aload_n 0, 1) := by decide +kernel
theorem dX8_buyerOf_22 : decode cX8_buyerOf 22 = .ok (.getfield 22, 3) := by decide +kernel
theorem dX8_buyerOf_25 : decode cX8_buyerOf 25 = .ok (.getfield 233, 3) := by decide +kernel
theorem dX8_buyerOf_28 : decode cX8_buyerOf 28 = .ok (.iload_n 2, 1) := by decide +kernel
theorem dX8_buyerOf_29 : decode cX8_buyerOf 29 = .ok (.iaload, 1) := by decide +kernel
theorem dX8_buyerOf_30 : decode cX8_buyerOf 30 = .ok (.ireturn, 1) := by decide +kernel
theorem dX8_loafOf_0 : decode cX8_loafOf 0 = .ok (.iload_n 1, 1) := by decide +kernel
theorem dX8_loafOf_1 : decode cX8_loafOf 1 = .ok (.invokestatic 163, 3) := by decide +kernel
theorem dX8_loafOf_4 : decode cX8_loafOf 4 = .ok (.aload_n 0, 1) := by decide +kernel
theorem dX8_loafOf_5 : decode cX8_loafOf 5 = .ok (.getfield 22, 3) := by decide +kernel
theorem dX8_loafOf_8 : decode cX8_loafOf 8 = .ok (.aload_n 0, 1) := by decide +kernel
theorem dX8_loafOf_9 : decode cX8_loafOf 9 = .ok (.getfield 10, 3) := by decide +kernel
theorem dX8_loafOf_12 : decode cX8_loafOf 12 = .ok (.iload_n 1, 1) := by decide +kernel
theorem dX8_loafOf_13 : decode cX8_loafOf 13 = .ok (.invokevirtual 214, 3) := by decide +kernel
theorem dX8_loafOf_16 : decode cX8_loafOf 16 = .ok (.aload_n 0, 1) := by decide +kernel
theorem dX8_loafOf_17 : decode cX8_loafOf 17 = .ok (.iload_n 2, 1) := by decide +kernel
theorem dX8_loafOf_18 : decode cX8_loafOf 18 = .ok (.invokevirtual 230, 3) := by decide +kernel
theorem dX8_loafOf_21 : decode cX8_loafOf 21 = .ok (.aload_n 0, 1) := by decide +kernel
theorem dX8_loafOf_22 : decode cX8_loafOf 22 = .ok (.getfield 22, 3) := by decide +kernel
theorem dX8_loafOf_25 : decode cX8_loafOf 25 = .ok (.getfield 236, 3) := by decide +kernel
theorem dX8_loafOf_28 : decode cX8_loafOf 28 = .ok (.iload_n 2, 1) := by decide +kernel
theorem dX8_loafOf_29 : decode cX8_loafOf 29 = .ok (.iaload, 1) := by decide +kernel
theorem dX8_loafOf_30 : decode cX8_loafOf 30 = .ok (.ireturn, 1) := by decide +kernel
theorem dX8_gain_0 : decode cX8_gain 0 = .ok (.iload_n 1, 1) := by decide +kernel
theorem dX8_gain_1 : decode cX8_gain 1 = .ok (.invokestatic 163, 3) := by decide +kernel
theorem dX8_gain_4 : decode cX8_gain 4 = .ok (.aload_n 0, 1) := by decide +kernel
theorem dX8_gain_5 : decode cX8_gain 5 = .ok (.getfield 22, 3) := by decide +kernel
theorem dX8_gain_8 : decode cX8_gain 8 = .ok (.aload_n 0, 1) := by decide +kernel
theorem dX8_gain_9 : decode cX8_gain 9 = .ok (.getfield 10, 3) := by decide +kernel
theorem dX8_gain_12 : decode cX8_gain 12 = .ok (.iload_n 1, 1) := by decide +kernel
theorem dX8_gain_13 : decode cX8_gain 13 = .ok (.invokevirtual 214, 3) := by decide +kernel
theorem dX8_gain_16 : decode cX8_gain 16 = .ok (.aload_n 0, 1) := by decide +kernel
theorem dX8_gain_17 : decode cX8_gain 17 = .ok (.getfield 22, 3) := by decide +kernel
theorem dX8_gain_20 : decode cX8_gain 20 = .ok (.invokevirtual 239, 3) := by decide +kernel
theorem dX8_gain_23 : decode cX8_gain 23 = .ok (.ireturn, 1) := by decide +kernel
theorem dX8_eventCount_0 : decode cX8_eventCount 0 = .ok (.aload_n 0, 1) := by decide +kernel
theorem dX8_eventCount_1 : decode cX8_eventCount 1 = .ok (.getfield 10, 3) := by decide +kernel
theorem dX8_eventCount_4 : decode cX8_eventCount 4 = .ok (.getfield 242, 3) := by decide +kernel
theorem dX8_eventCount_7 : decode cX8_eventCount 7 = .ok (.getfield 246, 3) := by decide +kernel
theorem dX8_eventCount_10 : decode cX8_eventCount 10 = .ok (.ireturn, 1) := by decide +kernel
theorem dX8_eventType_0 : decode cX8_eventType 0 = .ok (.aload_n 0, 1) := by decide +kernel
theorem dX8_eventType_1 : decode cX8_eventType 1 = .ok (.iload_n 1, 1) := by decide +kernel
theorem dX8_eventType_2 : decode cX8_eventType 2 = .ok (.invokevirtual 249, 3) := by decide +kernel
theorem dX8_eventType_5 : decode cX8_eventType 5 = .ok (.aload_n 0, 1) := by decide +kernel
theorem dX8_eventType_6 : decode cX8_eventType 6 = .ok (.getfield 10, 3) := by decide +kernel
theorem dX8_eventType_9 : decode cX8_eventType 9 = .ok (.getfield 242, 3) := by decide +kernel
theorem dX8_eventType_12 : decode cX8_eventType 12 = .ok (.getfield 252, 3) := by decide +kernel
theorem dX8_eventType_15 : decode cX8_eventType 15 = .ok (.iload_n 1, 1) := by decide +kernel
theorem dX8_eventType_16 : decode cX8_eventType 16 = .ok (.iaload, 1) := by decide +kernel
theorem dX8_eventType_17 : decode cX8_eventType 17 = .ok (.ireturn, 1) := by decide +kernel
theorem dX8_eventFirst_0 : decode cX8_eventFirst 0 = .ok (.aload_n 0, 1) := by decide +kernel
theorem dX8_eventFirst_1 : decode cX8_eventFirst 1 = .ok (.iload_n 1, 1) := by decide +kernel
theorem dX8_eventFirst_2 : decode cX8_eventFirst 2 = .ok (.invokevirtual 249, 3) := by decide +kernel
theorem dX8_eventFirst_5 : decode cX8_eventFirst 5 = .ok (.aload_n 0, 1) := by decide +kernel
theorem dX8_eventFirst_6 : decode cX8_eventFirst 6 = .ok (.getfield 10, 3) := by decide +kernel
theorem dX8_eventFirst_9 : decode cX8_eventFirst 9 = .ok (.getfield 242, 3) := by decide +kernel
theorem dX8_eventFirst_12 : decode cX8_eventFirst 12 = .ok (.getfield 255, 3) := by decide +kernel
theorem dX8_eventFirst_15 : decode cX8_eventFirst 15 = .ok (.iload_n 1, 1) := by decide +kernel
theorem dX8_eventFirst_16 : decode cX8_eventFirst 16 = .ok (.iaload, 1) := by decide +kernel
theorem dX8_eventFirst_17 : decode cX8_eventFirst 17 = .ok (.ireturn, 1) := by decide +kernel
theorem dX8_eventSecond_0 : decode cX8_eventSecond 0 = .ok (.aload_n 0, 1) := by decide +kernel
theorem dX8_eventSecond_1 : decode cX8_eventSecond 1 = .ok (.iload_n 1, 1) := by decide +kernel
theorem dX8_eventSecond_2 : decode cX8_eventSecond 2 = .ok (.invokevirtual 249, 3) := by decide +kernel
theorem dX8_eventSecond_5 : decode cX8_eventSecond 5 = .ok (.aload_n 0, 1) := by decide +kernel
theorem dX8_eventSecond_6 : decode cX8_eventSecond 6 = .ok (.getfield 10, 3) := by decide +kernel
theorem dX8_eventSecond_9 : decode cX8_eventSecond 9 = .ok (.getfield 242, 3) := by decide +kernel
theorem dX8_eventSecond_12 : decode cX8_eventSecond 12 = .ok (.getfield 258, 3) := by decide +kernel
theorem dX8_eventSecond_15 : decode cX8_eventSecond 15 = .ok (.iload_n 1, 1) := by decide +kernel
theorem dX8_eventSecond_16 : decode cX8_eventSecond 16 = .ok (.iaload, 1) := by decide +kernel
theorem dX8_eventSecond_17 : decode cX8_eventSecond 17 = .ok (.ireturn, 1) := by decide +kernel
theorem dX8_moneyDifference_0 : decode cX8_moneyDifference 0 = .ok (.aload_n 0, 1) := by decide +kernel
theorem dX8_moneyDifference_1 : decode cX8_moneyDifference 1 = .ok (.getfield 10, 3) := by decide +kernel
theorem dX8_moneyDifference_4 : decode cX8_moneyDifference 4 = .ok (.getfield 261, 3) := by decide +kernel
theorem dX8_moneyDifference_7 : decode cX8_moneyDifference 7 = .ok (.aload_n 0, 1) := by decide +kernel
theorem dX8_moneyDifference_8 : decode cX8_moneyDifference 8 = .ok (.getfield 10, 3) := by decide +kernel
theorem dX8_moneyDifference_11 : decode cX8_moneyDifference 11 = .ok (.getfield 108, 3) := by decide +kernel
theorem dX8_moneyDifference_14 : decode cX8_moneyDifference 14 = .ok (.getfield 184, 3) := by decide +kernel
theorem dX8_moneyDifference_17 : decode cX8_moneyDifference 17 = .ok (.aload_n 0, 1) := by decide +kernel
theorem dX8_moneyDifference_18 : decode cX8_moneyDifference 18 = .ok (.getfield 10, 3) := by decide +kernel
theorem dX8_moneyDifference_21 : decode cX8_moneyDifference 21 = .ok (.getfield 108, 3) := by decide +kernel
theorem dX8_moneyDifference_24 : decode cX8_moneyDifference 24 = .ok (.getfield 112, 3) := by decide +kernel
theorem dX8_moneyDifference_27 : decode cX8_moneyDifference 27 = .ok (.invokestatic 264, 3) := by decide +kernel
theorem dX8_moneyDifference_30 : decode cX8_moneyDifference 30 = .ok (.isub, 1) := by decide +kernel
theorem dX8_moneyDifference_31 : decode cX8_moneyDifference 31 = .ok (.aload_n 0, 1) := by decide +kernel
theorem dX8_moneyDifference_32 : decode cX8_moneyDifference 32 = .ok (.getfield 10, 3) := by decide +kernel
theorem dX8_moneyDifference_35 : decode cX8_moneyDifference 35 = .ok (.getfield 268, 3) := by decide +kernel
theorem dX8_moneyDifference_38 : decode cX8_moneyDifference 38 = .ok (.isub, 1) := by decide +kernel
theorem dX8_moneyDifference_39 : decode cX8_moneyDifference 39 = .ok (.aload_n 0, 1) := by decide +kernel
theorem dX8_moneyDifference_40 : decode cX8_moneyDifference 40 = .ok (.getfield 10, 3) := by decide +kernel
theorem dX8_moneyDifference_43 : decode cX8_moneyDifference 43 = .ok (.getfield 120, 3) := by decide +kernel
theorem dX8_moneyDifference_46 : decode cX8_moneyDifference 46 = .ok (.getfield 160, 3) := by decide +kernel
theorem dX8_moneyDifference_49 : decode cX8_moneyDifference 49 = .ok (.aload_n 0, 1) := by decide +kernel
theorem dX8_moneyDifference_50 : decode cX8_moneyDifference 50 = .ok (.getfield 10, 3) := by decide +kernel
theorem dX8_moneyDifference_53 : decode cX8_moneyDifference 53 = .ok (.getfield 120, 3) := by decide +kernel
theorem dX8_moneyDifference_56 : decode cX8_moneyDifference 56 = .ok (.getfield 124, 3) := by decide +kernel
theorem dX8_moneyDifference_59 : decode cX8_moneyDifference 59 = .ok (.invokestatic 264, 3) := by decide +kernel
theorem dX8_moneyDifference_62 : decode cX8_moneyDifference 62 = .ok (.isub, 1) := by decide +kernel
theorem dX8_moneyDifference_63 : decode cX8_moneyDifference 63 = .ok (.ireturn, 1) := by decide +kernel
theorem dX8_loafDifference_0 : decode cX8_loafDifference 0 = .ok (.aload_n 0, 1) := by decide +kernel
theorem dX8_loafDifference_1 : decode cX8_loafDifference 1 = .ok (.getfield 10, 3) := by decide +kernel
theorem dX8_loafDifference_4 : decode cX8_loafDifference 4 = .ok (.getfield 271, 3) := by decide +kernel
theorem dX8_loafDifference_7 : decode cX8_loafDifference 7 = .ok (.aload_n 0, 1) := by decide +kernel
theorem dX8_loafDifference_8 : decode cX8_loafDifference 8 = .ok (.getfield 10, 3) := by decide +kernel
theorem dX8_loafDifference_11 : decode cX8_loafDifference 11 = .ok (.getfield 274, 3) := by decide +kernel
theorem dX8_loafDifference_14 : decode cX8_loafDifference 14 = .ok (.isub, 1) := by decide +kernel
theorem dX8_loafDifference_15 : decode cX8_loafDifference 15 = .ok (.aload_n 0, 1) := by decide +kernel
theorem dX8_loafDifference_16 : decode cX8_loafDifference 16 = .ok (.getfield 10, 3) := by decide +kernel
theorem dX8_loafDifference_19 : decode cX8_loafDifference 19 = .ok (.getfield 277, 3) := by decide +kernel
theorem dX8_loafDifference_22 : decode cX8_loafDifference 22 = .ok (.isub, 1) := by decide +kernel
theorem dX8_loafDifference_23 : decode cX8_loafDifference 23 = .ok (.aload_n 0, 1) := by decide +kernel
theorem dX8_loafDifference_24 : decode cX8_loafDifference 24 = .ok (.getfield 10, 3) := by decide +kernel
theorem dX8_loafDifference_27 : decode cX8_loafDifference 27 = .ok (.getfield 127, 3) := by decide +kernel
theorem dX8_loafDifference_30 : decode cX8_loafDifference 30 = .ok (.getfield 131, 3) := by decide +kernel
theorem dX8_loafDifference_33 : decode cX8_loafDifference 33 = .ok (.isub, 1) := by decide +kernel
theorem dX8_loafDifference_34 : decode cX8_loafDifference 34 = .ok (.ireturn, 1) := by decide +kernel
theorem dX8_sparrowsAfter_0 : decode cX8_sparrowsAfter 0 = .ok (.iload_n 1, 1) := by decide +kernel
theorem dX8_sparrowsAfter_1 : decode cX8_sparrowsAfter 1 = .ok (.iconst 0, 1) := by decide +kernel
theorem dX8_sparrowsAfter_2 : decode cX8_sparrowsAfter 2 = .ok (.bipush 100, 2) := by decide +kernel
theorem dX8_sparrowsAfter_4 : decode cX8_sparrowsAfter 4 = .ok (.invokestatic 83, 3) := by decide +kernel
theorem dX8_sparrowsAfter_7 : decode cX8_sparrowsAfter 7 = .ok (.aload_n 0, 1) := by decide +kernel
theorem dX8_sparrowsAfter_8 : decode cX8_sparrowsAfter 8 = .ok (.iload_n 1, 1) := by decide +kernel
theorem dX8_sparrowsAfter_9 : decode cX8_sparrowsAfter 9 = .ok (.invokevirtual 280, 3) := by decide +kernel
theorem dX8_sparrowsAfter_12 : decode cX8_sparrowsAfter 12 = .ok (.aload_n 0, 1) := by decide +kernel
theorem dX8_sparrowsAfter_13 : decode cX8_sparrowsAfter 13 = .ok (.getfield 16, 3) := by decide +kernel
theorem dX8_sparrowsAfter_16 : decode cX8_sparrowsAfter 16 = .ok (.getfield 137, 3) := by decide +kernel
theorem dX8_sparrowsAfter_19 : decode cX8_sparrowsAfter 19 = .ok (.ireturn, 1) := by decide +kernel
theorem dX8_loavesAfter_0 : decode cX8_loavesAfter 0 = .ok (.iload_n 1, 1) := by decide +kernel
theorem dX8_loavesAfter_1 : decode cX8_loavesAfter 1 = .ok (.iconst 0, 1) := by decide +kernel
theorem dX8_loavesAfter_2 : decode cX8_loavesAfter 2 = .ok (.bipush 100, 2) := by decide +kernel
theorem dX8_loavesAfter_4 : decode cX8_loavesAfter 4 = .ok (.invokestatic 83, 3) := by decide +kernel
theorem dX8_loavesAfter_7 : decode cX8_loavesAfter 7 = .ok (.aload_n 0, 1) := by decide +kernel
theorem dX8_loavesAfter_8 : decode cX8_loavesAfter 8 = .ok (.iload_n 1, 1) := by decide +kernel
theorem dX8_loavesAfter_9 : decode cX8_loavesAfter 9 = .ok (.invokevirtual 280, 3) := by decide +kernel
theorem dX8_loavesAfter_12 : decode cX8_loavesAfter 12 = .ok (.aload_n 0, 1) := by decide +kernel
theorem dX8_loavesAfter_13 : decode cX8_loavesAfter 13 = .ok (.getfield 16, 3) := by decide +kernel
theorem dX8_loavesAfter_16 : decode cX8_loavesAfter 16 = .ok (.getfield 127, 3) := by decide +kernel
theorem dX8_loavesAfter_19 : decode cX8_loavesAfter 19 = .ok (.getfield 131, 3) := by decide +kernel
theorem dX8_loavesAfter_22 : decode cX8_loavesAfter 22 = .ok (.ireturn, 1) := by decide +kernel
theorem dX8_tradesAfter_0 : decode cX8_tradesAfter 0 = .ok (.iload_n 1, 1) := by decide +kernel
theorem dX8_tradesAfter_1 : decode cX8_tradesAfter 1 = .ok (.invokestatic 163, 3) := by decide +kernel
theorem dX8_tradesAfter_4 : decode cX8_tradesAfter 4 = .ok (.iload_n 2, 1) := by decide +kernel
theorem dX8_tradesAfter_5 : decode cX8_tradesAfter 5 = .ok (.iconst 0, 1) := by decide +kernel
theorem dX8_tradesAfter_6 : decode cX8_tradesAfter 6 = .ok (.bipush 100, 2) := by decide +kernel
theorem dX8_tradesAfter_8 : decode cX8_tradesAfter 8 = .ok (.invokestatic 83, 3) := by decide +kernel
theorem dX8_tradesAfter_11 : decode cX8_tradesAfter 11 = .ok (.aload_n 0, 1) := by decide +kernel
theorem dX8_tradesAfter_12 : decode cX8_tradesAfter 12 = .ok (.iload_n 2, 1) := by decide +kernel
theorem dX8_tradesAfter_13 : decode cX8_tradesAfter 13 = .ok (.invokevirtual 280, 3) := by decide +kernel
theorem dX8_tradesAfter_16 : decode cX8_tradesAfter 16 = .ok (.aload_n 0, 1) := by decide +kernel
theorem dX8_tradesAfter_17 : decode cX8_tradesAfter 17 = .ok (.getfield 22, 3) := by decide +kernel
theorem dX8_tradesAfter_20 : decode cX8_tradesAfter 20 = .ok (.aload_n 0, 1) := by decide +kernel
theorem dX8_tradesAfter_21 : decode cX8_tradesAfter 21 = .ok (.getfield 16, 3) := by decide +kernel
theorem dX8_tradesAfter_24 : decode cX8_tradesAfter 24 = .ok (.iload_n 1, 1) := by decide +kernel
theorem dX8_tradesAfter_25 : decode cX8_tradesAfter 25 = .ok (.invokevirtual 214, 3) := by decide +kernel
theorem dX8_tradesAfter_28 : decode cX8_tradesAfter 28 = .ok (.aload_n 0, 1) := by decide +kernel
theorem dX8_tradesAfter_29 : decode cX8_tradesAfter 29 = .ok (.getfield 22, 3) := by decide +kernel
theorem dX8_tradesAfter_32 : decode cX8_tradesAfter 32 = .ok (.getfield 221, 3) := by decide +kernel
theorem dX8_tradesAfter_35 : decode cX8_tradesAfter 35 = .ok (.ireturn, 1) := by decide +kernel
theorem dX8_bestHour_0 : decode cX8_bestHour 0 = .ok (.iload_n 1, 1) := by decide +kernel
theorem dX8_bestHour_1 : decode cX8_bestHour 1 = .ok (.invokestatic 163, 3) := by decide +kernel
theorem dX8_bestHour_4 : decode cX8_bestHour 4 = .ok (.aload_n 0, 1) := by decide +kernel
theorem dX8_bestHour_5 : decode cX8_bestHour 5 = .ok (.iconst 0, 1) := by decide +kernel
theorem dX8_bestHour_6 : decode cX8_bestHour 6 = .ok (.invokevirtual 280, 3) := by decide +kernel
theorem dX8_bestHour_9 : decode cX8_bestHour 9 = .ok (.iconst 0, 1) := by decide +kernel
theorem dX8_bestHour_10 : decode cX8_bestHour 10 = .ok (.istore_n 2, 1) := by decide +kernel
theorem dX8_bestHour_11 : decode cX8_bestHour 11 = .ok (.iconst 0, 1) := by decide +kernel
theorem dX8_bestHour_12 : decode cX8_bestHour 12 = .ok (.istore_n 3, 1) := by decide +kernel
theorem dX8_bestHour_13 : decode cX8_bestHour 13 = .ok (.iconst 0, 1) := by decide +kernel
theorem dX8_bestHour_14 : decode cX8_bestHour 14 = .ok (.istore 4, 2) := by decide +kernel
theorem dX8_bestHour_16 : decode cX8_bestHour 16 = .ok (.iload 4, 2) := by decide +kernel
theorem dX8_bestHour_18 : decode cX8_bestHour 18 = .ok (.bipush 24, 2) := by decide +kernel
theorem dX8_bestHour_20 : decode cX8_bestHour 20 = .ok (.if_icmp .gt 57, 3) := by decide +kernel
theorem dX8_bestHour_23 : decode cX8_bestHour 23 = .ok (.aload_n 0, 1) := by decide +kernel
theorem dX8_bestHour_24 : decode cX8_bestHour 24 = .ok (.getfield 22, 3) := by decide +kernel
theorem dX8_bestHour_27 : decode cX8_bestHour 27 = .ok (.aload_n 0, 1) := by decide +kernel
theorem dX8_bestHour_28 : decode cX8_bestHour 28 = .ok (.getfield 16, 3) := by decide +kernel
theorem dX8_bestHour_31 : decode cX8_bestHour 31 = .ok (.iload_n 1, 1) := by decide +kernel
theorem dX8_bestHour_32 : decode cX8_bestHour 32 = .ok (.invokevirtual 214, 3) := by decide +kernel
theorem dX8_bestHour_35 : decode cX8_bestHour 35 = .ok (.aload_n 0, 1) := by decide +kernel
theorem dX8_bestHour_36 : decode cX8_bestHour 36 = .ok (.getfield 22, 3) := by decide +kernel
theorem dX8_bestHour_39 : decode cX8_bestHour 39 = .ok (.getfield 221, 3) := by decide +kernel
theorem dX8_bestHour_42 : decode cX8_bestHour 42 = .ok (.aload_n 0, 1) := by decide +kernel
theorem dX8_bestHour_43 : decode cX8_bestHour 43 = .ok (.getfield 22, 3) := by decide +kernel
theorem dX8_bestHour_46 : decode cX8_bestHour 46 = .ok (.getfield 224, 3) := by decide +kernel
theorem dX8_bestHour_49 : decode cX8_bestHour 49 = .ok (.imul, 1) := by decide +kernel
theorem dX8_bestHour_50 : decode cX8_bestHour 50 = .ok (.istore 5, 2) := by decide +kernel
theorem dX8_bestHour_52 : decode cX8_bestHour 52 = .ok (.iload 5, 2) := by decide +kernel
theorem dX8_bestHour_54 : decode cX8_bestHour 54 = .ok (.iload_n 3, 1) := by decide +kernel
theorem dX8_bestHour_55 : decode cX8_bestHour 55 = .ok (.if_icmp .le 9, 3) := by decide +kernel
theorem dX8_bestHour_58 : decode cX8_bestHour 58 = .ok (.iload 5, 2) := by decide +kernel
theorem dX8_bestHour_60 : decode cX8_bestHour 60 = .ok (.istore_n 3, 1) := by decide +kernel
theorem dX8_bestHour_61 : decode cX8_bestHour 61 = .ok (.iload 4, 2) := by decide +kernel
theorem dX8_bestHour_63 : decode cX8_bestHour 63 = .ok (.istore_n 2, 1) := by decide +kernel
theorem dX8_bestHour_64 : decode cX8_bestHour 64 = .ok (.aload_n 0, 1) := by decide +kernel
theorem dX8_bestHour_65 : decode cX8_bestHour 65 = .ok (.getfield 16, 3) := by decide +kernel
theorem dX8_bestHour_68 : decode cX8_bestHour 68 = .ok (.invokevirtual 283, 3) := by decide +kernel
theorem dX8_bestHour_71 : decode cX8_bestHour 71 = .ok (.iinc 4 1, 3) := by decide +kernel
theorem dX8_bestHour_74 : decode cX8_bestHour 74 = .ok (.goto (-58), 3) := by decide +kernel
theorem dX8_bestHour_77 : decode cX8_bestHour 77 = .ok (.iload_n 2, 1) := by decide +kernel
theorem dX8_bestHour_78 : decode cX8_bestHour 78 = .ok (.ireturn, 1) := by decide +kernel
theorem dX8_meanAge_0 : decode cX8_meanAge 0 = .ok (.aload_n 0, 1) := by decide +kernel
theorem dX8_meanAge_1 : decode cX8_meanAge 1 = .ok (.getfield 10, 3) := by decide +kernel
theorem dX8_meanAge_4 : decode cX8_meanAge 4 = .ok (.getfield 127, 3) := by decide +kernel
theorem dX8_meanAge_7 : decode cX8_meanAge 7 = .ok (.getfield 131, 3) := by decide +kernel
theorem dX8_meanAge_10 : decode cX8_meanAge 10 = .ok (.istore_n 1, 1) := by decide +kernel
theorem dX8_meanAge_11 : decode cX8_meanAge 11 = .ok (.iload_n 1, 1) := by decide +kernel
theorem dX8_meanAge_12 : decode cX8_meanAge 12 = .ok (.ifCond .gt 5, 3) := by decide +kernel
theorem dX8_meanAge_15 : decode cX8_meanAge 15 = .ok (.dconst 0, 1) := by decide +kernel
theorem dX8_meanAge_16 : decode cX8_meanAge 16 = .ok (.dreturn, 1) := by decide +kernel
theorem dX8_meanAge_17 : decode cX8_meanAge 17 = .ok (.iconst 0, 1) := by decide +kernel
theorem dX8_meanAge_18 : decode cX8_meanAge 18 = .ok (.istore_n 2, 1) := by decide +kernel
theorem dX8_meanAge_19 : decode cX8_meanAge 19 = .ok (.iconst 0, 1) := by decide +kernel
theorem dX8_meanAge_20 : decode cX8_meanAge 20 = .ok (.istore_n 3, 1) := by decide +kernel
theorem dX8_meanAge_21 : decode cX8_meanAge 21 = .ok (.iload_n 3, 1) := by decide +kernel
theorem dX8_meanAge_22 : decode cX8_meanAge 22 = .ok (.iload_n 1, 1) := by decide +kernel
theorem dX8_meanAge_23 : decode cX8_meanAge 23 = .ok (.if_icmp .ge 20, 3) := by decide +kernel
theorem dX8_meanAge_26 : decode cX8_meanAge 26 = .ok (.iload_n 2, 1) := by decide +kernel
theorem dX8_meanAge_27 : decode cX8_meanAge 27 = .ok (.aload_n 0, 1) := by decide +kernel
theorem dX8_meanAge_28 : decode cX8_meanAge 28 = .ok (.getfield 10, 3) := by decide +kernel
theorem dX8_meanAge_31 : decode cX8_meanAge 31 = .ok (.iload_n 3, 1) := by decide +kernel
theorem dX8_meanAge_32 : decode cX8_meanAge 32 = .ok (.invokevirtual 201, 3) := by decide +kernel
theorem dX8_meanAge_35 : decode cX8_meanAge 35 = .ok (.iadd, 1) := by decide +kernel
theorem dX8_meanAge_36 : decode cX8_meanAge 36 = .ok (.istore_n 2, 1) := by decide +kernel
theorem dX8_meanAge_37 : decode cX8_meanAge 37 = .ok (.iinc 3 1, 3) := by decide +kernel
theorem dX8_meanAge_40 : decode cX8_meanAge 40 = .ok (.goto (-19), 3) := by decide +kernel
theorem dX8_meanAge_43 : decode cX8_meanAge 43 = .ok (.iload_n 2, 1) := by decide +kernel
theorem dX8_meanAge_44 : decode cX8_meanAge 44 = .ok (.i2d, 1) := by decide +kernel
theorem dX8_meanAge_45 : decode cX8_meanAge 45 = .ok (.iload_n 1, 1) := by decide +kernel
theorem dX8_meanAge_46 : decode cX8_meanAge 46 = .ok (.i2d, 1) := by decide +kernel
theorem dX8_meanAge_47 : decode cX8_meanAge 47 = .ok (.ddiv, 1) := by decide +kernel
theorem dX8_meanAge_48 : decode cX8_meanAge 48 = .ok (.dreturn, 1) := by decide +kernel
theorem dX8_soldShare_0 : decode cX8_soldShare 0 = .ok (.aload_n 0, 1) := by decide +kernel
theorem dX8_soldShare_1 : decode cX8_soldShare 1 = .ok (.getfield 10, 3) := by decide +kernel
theorem dX8_soldShare_4 : decode cX8_soldShare 4 = .ok (.getfield 271, 3) := by decide +kernel
theorem dX8_soldShare_7 : decode cX8_soldShare 7 = .ok (.ifCond .gt 5, 3) := by decide +kernel
theorem dX8_soldShare_10 : decode cX8_soldShare 10 = .ok (.fconst 0, 1) := by decide +kernel
theorem dX8_soldShare_11 : decode cX8_soldShare 11 = .ok (.freturn, 1) := by decide +kernel
theorem dX8_soldShare_12 : decode cX8_soldShare 12 = .ok (.aload_n 0, 1) := by decide +kernel
theorem dX8_soldShare_13 : decode cX8_soldShare 13 = .ok (.getfield 10, 3) := by decide +kernel
theorem dX8_soldShare_16 : decode cX8_soldShare 16 = .ok (.getfield 274, 3) := by decide +kernel
theorem dX8_soldShare_19 : decode cX8_soldShare 19 = .ok (.i2f, 1) := by decide +kernel
theorem dX8_soldShare_20 : decode cX8_soldShare 20 = .ok (.aload_n 0, 1) := by decide +kernel
theorem dX8_soldShare_21 : decode cX8_soldShare 21 = .ok (.getfield 10, 3) := by decide +kernel
theorem dX8_soldShare_24 : decode cX8_soldShare 24 = .ok (.getfield 271, 3) := by decide +kernel
theorem dX8_soldShare_27 : decode cX8_soldShare 27 = .ok (.i2f, 1) := by decide +kernel
theorem dX8_soldShare_28 : decode cX8_soldShare 28 = .ok (.fdiv, 1) := by decide +kernel
theorem dX8_soldShare_29 : decode cX8_soldShare 29 = .ok (.freturn, 1) := by decide +kernel
theorem dX8_bake_0 : decode cX8_bake 0 = .ok (.aload_n 0, 1) := by decide +kernel
theorem dX8_bake_1 : decode cX8_bake 1 = .ok (.iload_n 1, 1) := by decide +kernel
theorem dX8_bake_2 : decode cX8_bake 2 = .ok (.invokevirtual 140, 3) := by decide +kernel
theorem dX8_bake_5 : decode cX8_bake 5 = .ok (.iload_n 2, 1) := by decide +kernel
theorem dX8_bake_6 : decode cX8_bake 6 = .ok (.invokestatic 163, 3) := by decide +kernel
theorem dX8_bake_9 : decode cX8_bake 9 = .ok (.aload_n 0, 1) := by decide +kernel
theorem dX8_bake_10 : decode cX8_bake 10 = .ok (.getfield 10, 3) := by decide +kernel
theorem dX8_bake_13 : decode cX8_bake 13 = .ok (.iload_n 1, 1) := by decide +kernel
theorem dX8_bake_14 : decode cX8_bake 14 = .ok (.invokevirtual 166, 3) := by decide +kernel
theorem dX8_bake_17 : decode cX8_bake 17 = .ok (.ifCond .eq 14, 3) := by decide +kernel
theorem dX8_bake_20 : decode cX8_bake 20 = .ok (.new 72, 3) := by decide +kernel
theorem dX8_bake_23 : decode cX8_bake 23 = .ok (.dup, 1) := by decide +kernel
theorem dX8_bake_24 : decode cX8_bake 24 = .ok (.ldc_w 286, 3) := by decide +kernel
theorem dX8_bake_27 : decode cX8_bake 27 = .ok (.invokespecial 76, 3) := by decide +kernel
theorem dX8_bake_30 : decode cX8_bake 30 = .ok (.athrow, 1) := by decide +kernel
theorem dX8_bake_31 : decode cX8_bake 31 = .ok (.aload_n 0, 1) := by decide +kernel
theorem dX8_bake_32 : decode cX8_bake 32 = .ok (.invokevirtual 101, 3) := by decide +kernel
theorem dX8_bake_35 : decode cX8_bake 35 = .ok (.aload_n 0, 1) := by decide +kernel
theorem dX8_bake_36 : decode cX8_bake 36 = .ok (.getfield 10, 3) := by decide +kernel
theorem dX8_bake_39 : decode cX8_bake 39 = .ok (.getfield 120, 3) := by decide +kernel
theorem dX8_bake_42 : decode cX8_bake 42 = .ok (.iload_n 1, 1) := by decide +kernel
theorem dX8_bake_43 : decode cX8_bake 43 = .ok (.iload_n 2, 1) := by decide +kernel
theorem dX8_bake_44 : decode cX8_bake 44 = .ok (.invokevirtual 288, 3) := by decide +kernel
theorem dX8_bake_47 : decode cX8_bake 47 = .ok (.aload_n 0, 1) := by decide +kernel
theorem dX8_bake_48 : decode cX8_bake 48 = .ok (.getfield 10, 3) := by decide +kernel
theorem dX8_bake_51 : decode cX8_bake 51 = .ok (.getfield 120, 3) := by decide +kernel
theorem dX8_bake_54 : decode cX8_bake 54 = .ok (.getfield 151, 3) := by decide +kernel
theorem dX8_bake_57 : decode cX8_bake 57 = .ok (.iload_n 1, 1) := by decide +kernel
theorem dX8_bake_58 : decode cX8_bake 58 = .ok (.iaload, 1) := by decide +kernel
theorem dX8_bake_59 : decode cX8_bake 59 = .ok (.ireturn, 1) := by decide +kernel
theorem dX8_auction_0 : decode cX8_auction 0 = .ok (.iload_n 1, 1) := by decide +kernel
theorem dX8_auction_1 : decode cX8_auction 1 = .ok (.invokestatic 163, 3) := by decide +kernel
theorem dX8_auction_4 : decode cX8_auction 4 = .ok (.aload_n 0, 1) := by decide +kernel
theorem dX8_auction_5 : decode cX8_auction 5 = .ok (.invokevirtual 101, 3) := by decide +kernel
theorem dX8_auction_8 : decode cX8_auction 8 = .ok (.aload_n 0, 1) := by decide +kernel
theorem dX8_auction_9 : decode cX8_auction 9 = .ok (.getfield 22, 3) := by decide +kernel
theorem dX8_auction_12 : decode cX8_auction 12 = .ok (.aload_n 0, 1) := by decide +kernel
theorem dX8_auction_13 : decode cX8_auction 13 = .ok (.getfield 10, 3) := by decide +kernel
theorem dX8_auction_16 : decode cX8_auction 16 = .ok (.iload_n 1, 1) := by decide +kernel
theorem dX8_auction_17 : decode cX8_auction 17 = .ok (.invokevirtual 292, 3) := by decide +kernel
theorem dX8_auction_20 : decode cX8_auction 20 = .ok (.aload_n 0, 1) := by decide +kernel
theorem dX8_auction_21 : decode cX8_auction 21 = .ok (.getfield 22, 3) := by decide +kernel
theorem dX8_auction_24 : decode cX8_auction 24 = .ok (.getfield 221, 3) := by decide +kernel
theorem dX8_auction_27 : decode cX8_auction 27 = .ok (.ireturn, 1) := by decide +kernel
theorem dX8_joinQueue_0 : decode cX8_joinQueue 0 = .ok (.iload_n 1, 1) := by decide +kernel
theorem dX8_joinQueue_1 : decode cX8_joinQueue 1 = .ok (.invokestatic 163, 3) := by decide +kernel
theorem dX8_joinQueue_4 : decode cX8_joinQueue 4 = .ok (.iload_n 2, 1) := by decide +kernel
theorem dX8_joinQueue_5 : decode cX8_joinQueue 5 = .ok (.iconst 1, 1) := by decide +kernel
theorem dX8_joinQueue_6 : decode cX8_joinQueue 6 = .ok (.bipush 9, 2) := by decide +kernel
theorem dX8_joinQueue_8 : decode cX8_joinQueue 8 = .ok (.invokestatic 83, 3) := by decide +kernel
theorem dX8_joinQueue_11 : decode cX8_joinQueue 11 = .ok (.iload_n 3, 1) := by decide +kernel
theorem dX8_joinQueue_12 : decode cX8_joinQueue 12 = .ok (.iconst 1, 1) := by decide +kernel
theorem dX8_joinQueue_13 : decode cX8_joinQueue 13 = .ok (.bipush 99, 2) := by decide +kernel
theorem dX8_joinQueue_15 : decode cX8_joinQueue 15 = .ok (.invokestatic 83, 3) := by decide +kernel
theorem dX8_joinQueue_18 : decode cX8_joinQueue 18 = .ok (.iload 4, 2) := by decide +kernel
theorem dX8_joinQueue_20 : decode cX8_joinQueue 20 = .ok (.iconst 0, 1) := by decide +kernel
theorem dX8_joinQueue_21 : decode cX8_joinQueue 21 = .ok (.sipush 999, 3) := by decide +kernel
theorem dX8_joinQueue_24 : decode cX8_joinQueue 24 = .ok (.invokestatic 83, 3) := by decide +kernel
theorem dX8_joinQueue_27 : decode cX8_joinQueue 27 = .ok (.iload 5, 2) := by decide +kernel
theorem dX8_joinQueue_29 : decode cX8_joinQueue 29 = .ok (.iconst 1, 1) := by decide +kernel
theorem dX8_joinQueue_30 : decode cX8_joinQueue 30 = .ok (.bipush 99, 2) := by decide +kernel
theorem dX8_joinQueue_32 : decode cX8_joinQueue 32 = .ok (.invokestatic 83, 3) := by decide +kernel
theorem dX8_joinQueue_35 : decode cX8_joinQueue 35 = .ok (.aload_n 0, 1) := by decide +kernel
theorem dX8_joinQueue_36 : decode cX8_joinQueue 36 = .ok (.getfield 26, 3) := by decide +kernel
theorem dX8_joinQueue_39 : decode cX8_joinQueue 39 = .ok (.iconst 0, 1) := by decide +kernel
theorem dX8_joinQueue_40 : decode cX8_joinQueue 40 = .ok (.aload_n 0, 1) := by decide +kernel
theorem dX8_joinQueue_41 : decode cX8_joinQueue 41 = .ok (.getfield 69, 3) := by decide +kernel
theorem dX8_joinQueue_44 : decode cX8_joinQueue 44 = .ok (.invokestatic 295, 3) := by decide +kernel
theorem dX8_joinQueue_47 : decode cX8_joinQueue 47 = .ok (.istore 6, 2) := by decide +kernel
theorem dX8_joinQueue_49 : decode cX8_joinQueue 49 = .ok (.iload 6, 2) := by decide +kernel
theorem dX8_joinQueue_51 : decode cX8_joinQueue 51 = .ok (.iconst (-1), 1) := by decide +kernel
theorem dX8_joinQueue_52 : decode cX8_joinQueue 52 = .ok (.if_icmp .ne 14, 3) := by decide +kernel
theorem dX8_joinQueue_55 : decode cX8_joinQueue 55 = .ok (.new 96, 3) := by decide +kernel
theorem dX8_joinQueue_58 : decode cX8_joinQueue 58 = .ok (.dup, 1) := by decide +kernel
theorem dX8_joinQueue_59 : decode cX8_joinQueue 59 = .ok (.ldc_w 299, 3) := by decide +kernel
theorem dX8_joinQueue_62 : decode cX8_joinQueue 62 = .ok (.invokespecial 100, 3) := by decide +kernel
theorem dX8_joinQueue_65 : decode cX8_joinQueue 65 = .ok (.athrow, 1) := by decide +kernel
theorem dX8_joinQueue_66 : decode cX8_joinQueue 66 = .ok (.aload_n 0, 1) := by decide +kernel
theorem dX8_joinQueue_67 : decode cX8_joinQueue 67 = .ok (.getfield 10, 3) := by decide +kernel
theorem dX8_joinQueue_70 : decode cX8_joinQueue 70 = .ok (.getfield 108, 3) := by decide +kernel
theorem dX8_joinQueue_73 : decode cX8_joinQueue 73 = .ok (.getfield 112, 3) := by decide +kernel
theorem dX8_joinQueue_76 : decode cX8_joinQueue 76 = .ok (.bipush 10, 2) := by decide +kernel
theorem dX8_joinQueue_78 : decode cX8_joinQueue 78 = .ok (.if_icmp .ge 15, 3) := by decide +kernel
theorem dX8_joinQueue_81 : decode cX8_joinQueue 81 = .ok (.aload_n 0, 1) := by decide +kernel
theorem dX8_joinQueue_82 : decode cX8_joinQueue 82 = .ok (.getfield 10, 3) := by decide +kernel
theorem dX8_joinQueue_85 : decode cX8_joinQueue 85 = .ok (.iload 6, 2) := by decide +kernel
theorem dX8_joinQueue_87 : decode cX8_joinQueue 87 = .ok (.invokevirtual 301, 3) := by decide +kernel
theorem dX8_joinQueue_90 : decode cX8_joinQueue 90 = .ok (.ifCond .eq 14, 3) := by decide +kernel
theorem dX8_joinQueue_93 : decode cX8_joinQueue 93 = .ok (.new 72, 3) := by decide +kernel
theorem dX8_joinQueue_96 : decode cX8_joinQueue 96 = .ok (.dup, 1) := by decide +kernel
theorem dX8_joinQueue_97 : decode cX8_joinQueue 97 = .ok (.ldc_w 305, 3) := by decide +kernel
theorem dX8_joinQueue_100 : decode cX8_joinQueue 100 = .ok (.invokespecial 76, 3) := by decide +kernel
theorem dX8_joinQueue_103 : decode cX8_joinQueue 103 = .ok (.athrow, 1) := by decide +kernel
theorem dX8_joinQueue_104 : decode cX8_joinQueue 104 = .ok (.aload_n 0, 1) := by decide +kernel
theorem dX8_joinQueue_105 : decode cX8_joinQueue 105 = .ok (.invokevirtual 101, 3) := by decide +kernel
theorem dX8_joinQueue_108 : decode cX8_joinQueue 108 = .ok (.aload_n 0, 1) := by decide +kernel
theorem dX8_joinQueue_109 : decode cX8_joinQueue 109 = .ok (.iconst 0, 1) := by decide +kernel
theorem dX8_joinQueue_110 : decode cX8_joinQueue 110 = .ok (.putfield 69, 3) := by decide +kernel
theorem dX8_joinQueue_113 : decode cX8_joinQueue 113 = .ok (.aload_n 0, 1) := by decide +kernel
theorem dX8_joinQueue_114 : decode cX8_joinQueue 114 = .ok (.getfield 10, 3) := by decide +kernel
theorem dX8_joinQueue_117 : decode cX8_joinQueue 117 = .ok (.iload 6, 2) := by decide +kernel
theorem dX8_joinQueue_119 : decode cX8_joinQueue 119 = .ok (.iload_n 1, 1) := by decide +kernel
theorem dX8_joinQueue_120 : decode cX8_joinQueue 120 = .ok (.iload_n 2, 1) := by decide +kernel
theorem dX8_joinQueue_121 : decode cX8_joinQueue 121 = .ok (.iload_n 3, 1) := by decide +kernel
theorem dX8_joinQueue_122 : decode cX8_joinQueue 122 = .ok (.iload 4, 2) := by decide +kernel
theorem dX8_joinQueue_124 : decode cX8_joinQueue 124 = .ok (.iload 5, 2) := by decide +kernel
theorem dX8_joinQueue_126 : decode cX8_joinQueue 126 = .ok (.invokevirtual 307, 3) := by decide +kernel
theorem dX8_joinQueue_129 : decode cX8_joinQueue 129 = .ok (.ireturn, 1) := by decide +kernel
theorem dX8_sendAway_0 : decode cX8_sendAway 0 = .ok (.aload_n 0, 1) := by decide +kernel
theorem dX8_sendAway_1 : decode cX8_sendAway 1 = .ok (.iload_n 1, 1) := by decide +kernel
theorem dX8_sendAway_2 : decode cX8_sendAway 2 = .ok (.invokevirtual 170, 3) := by decide +kernel
theorem dX8_sendAway_5 : decode cX8_sendAway 5 = .ok (.aload_n 0, 1) := by decide +kernel
theorem dX8_sendAway_6 : decode cX8_sendAway 6 = .ok (.invokevirtual 101, 3) := by decide +kernel
theorem dX8_sendAway_9 : decode cX8_sendAway 9 = .ok (.aload_n 0, 1) := by decide +kernel
theorem dX8_sendAway_10 : decode cX8_sendAway 10 = .ok (.getfield 10, 3) := by decide +kernel
theorem dX8_sendAway_13 : decode cX8_sendAway 13 = .ok (.getfield 108, 3) := by decide +kernel
theorem dX8_sendAway_16 : decode cX8_sendAway 16 = .ok (.getfield 184, 3) := by decide +kernel
theorem dX8_sendAway_19 : decode cX8_sendAway 19 = .ok (.iload_n 1, 1) := by decide +kernel
theorem dX8_sendAway_20 : decode cX8_sendAway 20 = .ok (.iaload, 1) := by decide +kernel
theorem dX8_sendAway_21 : decode cX8_sendAway 21 = .ok (.istore_n 2, 1) := by decide +kernel
theorem dX8_sendAway_22 : decode cX8_sendAway 22 = .ok (.aload_n 0, 1) := by decide +kernel
theorem dX8_sendAway_23 : decode cX8_sendAway 23 = .ok (.getfield 10, 3) := by decide +kernel
theorem dX8_sendAway_26 : decode cX8_sendAway 26 = .ok (.iload_n 1, 1) := by decide +kernel
theorem dX8_sendAway_27 : decode cX8_sendAway 27 = .ok (.iconst 2, 1) := by decide +kernel
theorem dX8_sendAway_28 : decode cX8_sendAway 28 = .ok (.invokevirtual 311, 3) := by decide +kernel
theorem dX8_sendAway_31 : decode cX8_sendAway 31 = .ok (.aload_n 0, 1) := by decide +kernel
theorem dX8_sendAway_32 : decode cX8_sendAway 32 = .ok (.getfield 10, 3) := by decide +kernel
theorem dX8_sendAway_35 : decode cX8_sendAway 35 = .ok (.getfield 108, 3) := by decide +kernel
theorem dX8_sendAway_38 : decode cX8_sendAway 38 = .ok (.invokevirtual 314, 3) := by decide +kernel
theorem dX8_sendAway_41 : decode cX8_sendAway 41 = .ok (.iload_n 2, 1) := by decide +kernel
theorem dX8_sendAway_42 : decode cX8_sendAway 42 = .ok (.ireturn, 1) := by decide +kernel
theorem dX8_setBasePrice_0 : decode cX8_setBasePrice 0 = .ok (.iload_n 1, 1) := by decide +kernel
theorem dX8_setBasePrice_1 : decode cX8_setBasePrice 1 = .ok (.invokestatic 163, 3) := by decide +kernel
theorem dX8_setBasePrice_4 : decode cX8_setBasePrice 4 = .ok (.iload_n 2, 1) := by decide +kernel
theorem dX8_setBasePrice_5 : decode cX8_setBasePrice 5 = .ok (.iconst 1, 1) := by decide +kernel
theorem dX8_setBasePrice_6 : decode cX8_setBasePrice 6 = .ok (.bipush 99, 2) := by decide +kernel
theorem dX8_setBasePrice_8 : decode cX8_setBasePrice 8 = .ok (.invokestatic 83, 3) := by decide +kernel
theorem dX8_setBasePrice_11 : decode cX8_setBasePrice 11 = .ok (.aload_n 0, 1) := by decide +kernel
theorem dX8_setBasePrice_12 : decode cX8_setBasePrice 12 = .ok (.invokevirtual 101, 3) := by decide +kernel
theorem dX8_setBasePrice_15 : decode cX8_setBasePrice 15 = .ok (.aload_n 0, 1) := by decide +kernel
theorem dX8_setBasePrice_16 : decode cX8_setBasePrice 16 = .ok (.getfield 10, 3) := by decide +kernel
theorem dX8_setBasePrice_19 : decode cX8_setBasePrice 19 = .ok (.iload_n 1, 1) := by decide +kernel
theorem dX8_setBasePrice_20 : decode cX8_setBasePrice 20 = .ok (.invokevirtual 207, 3) := by decide +kernel
theorem dX8_setBasePrice_23 : decode cX8_setBasePrice 23 = .ok (.istore_n 3, 1) := by decide +kernel
theorem dX8_setBasePrice_24 : decode cX8_setBasePrice 24 = .ok (.aload_n 0, 1) := by decide +kernel
theorem dX8_setBasePrice_25 : decode cX8_setBasePrice 25 = .ok (.getfield 10, 3) := by decide +kernel
theorem dX8_setBasePrice_28 : decode cX8_setBasePrice 28 = .ok (.getfield 317, 3) := by decide +kernel
theorem dX8_setBasePrice_31 : decode cX8_setBasePrice 31 = .ok (.iload_n 1, 1) := by decide +kernel
theorem dX8_setBasePrice_32 : decode cX8_setBasePrice 32 = .ok (.iload_n 2, 1) := by decide +kernel
theorem dX8_setBasePrice_33 : decode cX8_setBasePrice 33 = .ok (.iastore, 1) := by decide +kernel
theorem dX8_setBasePrice_34 : decode cX8_setBasePrice 34 = .ok (.iload_n 3, 1) := by decide +kernel
theorem dX8_setBasePrice_35 : decode cX8_setBasePrice 35 = .ok (.ireturn, 1) := by decide +kernel
theorem dX8_scatter_0 : decode cX8_scatter 0 = .ok (.iload_n 1, 1) := by decide +kernel
theorem dX8_scatter_1 : decode cX8_scatter 1 = .ok (.iconst 1, 1) := by decide +kernel
theorem dX8_scatter_2 : decode cX8_scatter 2 = .ok (.bipush 99, 2) := by decide +kernel
theorem dX8_scatter_4 : decode cX8_scatter 4 = .ok (.invokestatic 83, 3) := by decide +kernel
theorem dX8_scatter_7 : decode cX8_scatter 7 = .ok (.aload_n 0, 1) := by decide +kernel
theorem dX8_scatter_8 : decode cX8_scatter 8 = .ok (.invokevirtual 101, 3) := by decide +kernel
theorem dX8_scatter_11 : decode cX8_scatter 11 = .ok (.aload_n 0, 1) := by decide +kernel
theorem dX8_scatter_12 : decode cX8_scatter 12 = .ok (.getfield 10, 3) := by decide +kernel
theorem dX8_scatter_15 : decode cX8_scatter 15 = .ok (.dup, 1) := by decide +kernel
theorem dX8_scatter_16 : decode cX8_scatter 16 = .ok (.getfield 134, 3) := by decide +kernel
theorem dX8_scatter_19 : decode cX8_scatter 19 = .ok (.iload_n 1, 1) := by decide +kernel
theorem dX8_scatter_20 : decode cX8_scatter 20 = .ok (.iadd, 1) := by decide +kernel
theorem dX8_scatter_21 : decode cX8_scatter 21 = .ok (.putfield 134, 3) := by decide +kernel
theorem dX8_scatter_24 : decode cX8_scatter 24 = .ok (.aload_n 0, 1) := by decide +kernel
theorem dX8_scatter_25 : decode cX8_scatter 25 = .ok (.getfield 10, 3) := by decide +kernel
theorem dX8_scatter_28 : decode cX8_scatter 28 = .ok (.getfield 134, 3) := by decide +kernel
theorem dX8_scatter_31 : decode cX8_scatter 31 = .ok (.ireturn, 1) := by decide +kernel
theorem dX8_passHours_0 : decode cX8_passHours 0 = .ok (.iload_n 1, 1) := by decide +kernel
theorem dX8_passHours_1 : decode cX8_passHours 1 = .ok (.iconst 1, 1) := by decide +kernel
theorem dX8_passHours_2 : decode cX8_passHours 2 = .ok (.bipush 60, 2) := by decide +kernel
theorem dX8_passHours_4 : decode cX8_passHours 4 = .ok (.invokestatic 83, 3) := by decide +kernel
theorem dX8_passHours_7 : decode cX8_passHours 7 = .ok (.aload_n 0, 1) := by decide +kernel
theorem dX8_passHours_8 : decode cX8_passHours 8 = .ok (.invokevirtual 101, 3) := by decide +kernel
theorem dX8_passHours_11 : decode cX8_passHours 11 = .ok (.aload_n 0, 1) := by decide +kernel
theorem dX8_passHours_12 : decode cX8_passHours 12 = .ok (.getfield 10, 3) := by decide +kernel
theorem dX8_passHours_15 : decode cX8_passHours 15 = .ok (.getfield 277, 3) := by decide +kernel
theorem dX8_passHours_18 : decode cX8_passHours 18 = .ok (.istore_n 2, 1) := by decide +kernel
theorem dX8_passHours_19 : decode cX8_passHours 19 = .ok (.iconst 0, 1) := by decide +kernel
theorem dX8_passHours_20 : decode cX8_passHours 20 = .ok (.istore_n 3, 1) := by decide +kernel
theorem dX8_passHours_21 : decode cX8_passHours 21 = .ok (.iload_n 3, 1) := by decide +kernel
theorem dX8_passHours_22 : decode cX8_passHours 22 = .ok (.iload_n 1, 1) := by decide +kernel
theorem dX8_passHours_23 : decode cX8_passHours 23 = .ok (.if_icmp .ge 16, 3) := by decide +kernel
theorem dX8_passHours_26 : decode cX8_passHours 26 = .ok (.aload_n 0, 1) := by decide +kernel
theorem dX8_passHours_27 : decode cX8_passHours 27 = .ok (.getfield 10, 3) := by decide +kernel
theorem dX8_passHours_30 : decode cX8_passHours 30 = .ok (.invokevirtual 283, 3) := by decide +kernel
theorem dX8_passHours_33 : decode cX8_passHours 33 = .ok (.iinc 3 1, 3) := by decide +kernel
theorem dX8_passHours_36 : decode cX8_passHours 36 = .ok (.goto (-15), 3) := by decide +kernel
theorem dX8_passHours_39 : decode cX8_passHours 39 = .ok (.aload_n 0, 1) := by decide +kernel
theorem dX8_passHours_40 : decode cX8_passHours 40 = .ok (.getfield 10, 3) := by decide +kernel
theorem dX8_passHours_43 : decode cX8_passHours 43 = .ok (.getfield 277, 3) := by decide +kernel
theorem dX8_passHours_46 : decode cX8_passHours 46 = .ok (.iload_n 2, 1) := by decide +kernel
theorem dX8_passHours_47 : decode cX8_passHours 47 = .ok (.isub, 1) := by decide +kernel
theorem dX8_passHours_48 : decode cX8_passHours 48 = .ok (.ireturn, 1) := by decide +kernel
theorem dX8_writeQueue_0 : decode cX8_writeQueue 0 = .ok (.aload_n 0, 1) := by decide +kernel
theorem dX8_writeQueue_1 : decode cX8_writeQueue 1 = .ok (.getfield 10, 3) := by decide +kernel
theorem dX8_writeQueue_4 : decode cX8_writeQueue 4 = .ok (.getfield 108, 3) := by decide +kernel
theorem dX8_writeQueue_7 : decode cX8_writeQueue 7 = .ok (.astore_n 1, 1) := by decide +kernel
theorem dX8_writeQueue_8 : decode cX8_writeQueue 8 = .ok (.aload_n 0, 1) := by decide +kernel
theorem dX8_writeQueue_9 : decode cX8_writeQueue 9 = .ok (.iconst 0, 1) := by decide +kernel
theorem dX8_writeQueue_10 : decode cX8_writeQueue 10 = .ok (.putfield 320, 3) := by decide +kernel
theorem dX8_writeQueue_13 : decode cX8_writeQueue 13 = .ok (.iconst 0, 1) := by decide +kernel
theorem dX8_writeQueue_14 : decode cX8_writeQueue 14 = .ok (.istore_n 2, 1) := by decide +kernel
theorem dX8_writeQueue_15 : decode cX8_writeQueue 15 = .ok (.iload_n 2, 1) := by decide +kernel
theorem dX8_writeQueue_16 : decode cX8_writeQueue 16 = .ok (.aload_n 1, 1) := by decide +kernel
theorem dX8_writeQueue_17 : decode cX8_writeQueue 17 = .ok (.getfield 112, 3) := by decide +kernel
theorem dX8_writeQueue_20 : decode cX8_writeQueue 20 = .ok (.if_icmp .ge 102, 3) := by decide +kernel
theorem dX8_writeQueue_23 : decode cX8_writeQueue 23 = .ok (.iload_n 2, 1) := by decide +kernel
theorem dX8_writeQueue_24 : decode cX8_writeQueue 24 = .ok (.bipush 10, 2) := by decide +kernel
theorem dX8_writeQueue_26 : decode cX8_writeQueue 26 = .ok (.if_icmp .ge 96, 3) := by decide +kernel
theorem dX8_writeQueue_29 : decode cX8_writeQueue 29 = .ok (.iload_n 2, 1) := by decide +kernel
theorem dX8_writeQueue_30 : decode cX8_writeQueue 30 = .ok (.ifCond .le 9, 3) := by decide +kernel
theorem dX8_writeQueue_33 : decode cX8_writeQueue 33 = .ok (.aload_n 0, 1) := by decide +kernel
theorem dX8_writeQueue_34 : decode cX8_writeQueue 34 = .ok (.bipush 32, 2) := by decide +kernel
theorem dX8_writeQueue_36 : decode cX8_writeQueue 36 = .ok (.invokevirtual 323, 3) := by decide +kernel
theorem dX8_writeQueue_39 : decode cX8_writeQueue 39 = .ok (.aload_n 0, 1) := by decide +kernel
theorem dX8_writeQueue_40 : decode cX8_writeQueue 40 = .ok (.aload_n 1, 1) := by decide +kernel
theorem dX8_writeQueue_41 : decode cX8_writeQueue 41 = .ok (.getfield 173, 3) := by decide +kernel
theorem dX8_writeQueue_44 : decode cX8_writeQueue 44 = .ok (.iload_n 2, 1) := by decide +kernel
theorem dX8_writeQueue_45 : decode cX8_writeQueue 45 = .ok (.iaload, 1) := by decide +kernel
theorem dX8_writeQueue_46 : decode cX8_writeQueue 46 = .ok (.invokevirtual 326, 3) := by decide +kernel
theorem dX8_writeQueue_49 : decode cX8_writeQueue 49 = .ok (.aload_n 0, 1) := by decide +kernel
theorem dX8_writeQueue_50 : decode cX8_writeQueue 50 = .ok (.bipush 42, 2) := by decide +kernel
theorem dX8_writeQueue_52 : decode cX8_writeQueue 52 = .ok (.invokevirtual 323, 3) := by decide +kernel
theorem dX8_writeQueue_55 : decode cX8_writeQueue 55 = .ok (.aload_n 0, 1) := by decide +kernel
theorem dX8_writeQueue_56 : decode cX8_writeQueue 56 = .ok (.aload_n 1, 1) := by decide +kernel
theorem dX8_writeQueue_57 : decode cX8_writeQueue 57 = .ok (.getfield 178, 3) := by decide +kernel
theorem dX8_writeQueue_60 : decode cX8_writeQueue 60 = .ok (.iload_n 2, 1) := by decide +kernel
theorem dX8_writeQueue_61 : decode cX8_writeQueue 61 = .ok (.iaload, 1) := by decide +kernel
theorem dX8_writeQueue_62 : decode cX8_writeQueue 62 = .ok (.invokevirtual 329, 3) := by decide +kernel
theorem dX8_writeQueue_65 : decode cX8_writeQueue 65 = .ok (.aload_n 0, 1) := by decide +kernel
theorem dX8_writeQueue_66 : decode cX8_writeQueue 66 = .ok (.aload_n 1, 1) := by decide +kernel
theorem dX8_writeQueue_67 : decode cX8_writeQueue 67 = .ok (.getfield 177, 3) := by decide +kernel
theorem dX8_writeQueue_70 : decode cX8_writeQueue 70 = .ok (.iload_n 2, 1) := by decide +kernel
theorem dX8_writeQueue_71 : decode cX8_writeQueue 71 = .ok (.iaload, 1) := by decide +kernel
theorem dX8_writeQueue_72 : decode cX8_writeQueue 72 = .ok (.ifCond .ne 8, 3) := by decide +kernel
theorem dX8_writeQueue_75 : decode cX8_writeQueue 75 = .ok (.bipush 114, 2) := by decide +kernel
theorem dX8_writeQueue_77 : decode cX8_writeQueue 77 = .ok (.goto 20, 3) := by decide +kernel
theorem dX8_writeQueue_80 : decode cX8_writeQueue 80 = .ok (.aload_n 1, 1) := by decide +kernel
theorem dX8_writeQueue_81 : decode cX8_writeQueue 81 = .ok (.getfield 177, 3) := by decide +kernel
theorem dX8_writeQueue_84 : decode cX8_writeQueue 84 = .ok (.iload_n 2, 1) := by decide +kernel
theorem dX8_writeQueue_85 : decode cX8_writeQueue 85 = .ok (.iaload, 1) := by decide +kernel
theorem dX8_writeQueue_86 : decode cX8_writeQueue 86 = .ok (.iconst 1, 1) := by decide +kernel
theorem dX8_writeQueue_87 : decode cX8_writeQueue 87 = .ok (.if_icmp .ne 8, 3) := by decide +kernel
theorem dX8_writeQueue_90 : decode cX8_writeQueue 90 = .ok (.bipush 119, 2) := by decide +kernel
theorem dX8_writeQueue_92 : decode cX8_writeQueue 92 = .ok (.goto 5, 3) := by decide +kernel
theorem dX8_writeQueue_95 : decode cX8_writeQueue 95 = .ok (.bipush 111, 2) := by decide +kernel
theorem dX8_writeQueue_97 : decode cX8_writeQueue 97 = .ok (.invokevirtual 323, 3) := by decide +kernel
theorem dX8_writeQueue_100 : decode cX8_writeQueue 100 = .ok (.aload_n 0, 1) := by decide +kernel
theorem dX8_writeQueue_101 : decode cX8_writeQueue 101 = .ok (.bipush 64, 2) := by decide +kernel
theorem dX8_writeQueue_103 : decode cX8_writeQueue 103 = .ok (.invokevirtual 323, 3) := by decide +kernel
theorem dX8_writeQueue_106 : decode cX8_writeQueue 106 = .ok (.aload_n 0, 1) := by decide +kernel
theorem dX8_writeQueue_107 : decode cX8_writeQueue 107 = .ok (.aload_n 1, 1) := by decide +kernel
theorem dX8_writeQueue_108 : decode cX8_writeQueue 108 = .ok (.getfield 181, 3) := by decide +kernel
theorem dX8_writeQueue_111 : decode cX8_writeQueue 111 = .ok (.iload_n 2, 1) := by decide +kernel
theorem dX8_writeQueue_112 : decode cX8_writeQueue 112 = .ok (.iaload, 1) := by decide +kernel
theorem dX8_writeQueue_113 : decode cX8_writeQueue 113 = .ok (.invokevirtual 329, 3) := by decide +kernel
theorem dX8_writeQueue_116 : decode cX8_writeQueue 116 = .ok (.iinc 2 1, 3) := by decide +kernel
theorem dX8_writeQueue_119 : decode cX8_writeQueue 119 = .ok (.goto (-104), 3) := by decide +kernel
theorem dX8_writeQueue_122 : decode cX8_writeQueue 122 = .ok (.aload_n 0, 1) := by decide +kernel
theorem dX8_writeQueue_123 : decode cX8_writeQueue 123 = .ok (.getfield 320, 3) := by decide +kernel
theorem dX8_writeQueue_126 : decode cX8_writeQueue 126 = .ok (.ireturn, 1) := by decide +kernel
theorem dX8_outputByte_0 : decode cX8_outputByte 0 = .ok (.iload_n 1, 1) := by decide +kernel
theorem dX8_outputByte_1 : decode cX8_outputByte 1 = .ok (.ifCond .lt 11, 3) := by decide +kernel
theorem dX8_outputByte_4 : decode cX8_outputByte 4 = .ok (.iload_n 1, 1) := by decide +kernel
theorem dX8_outputByte_5 : decode cX8_outputByte 5 = .ok (.aload_n 0, 1) := by decide +kernel
theorem dX8_outputByte_6 : decode cX8_outputByte 6 = .ok (.getfield 320, 3) := by decide +kernel
theorem dX8_outputByte_9 : decode cX8_outputByte 9 = .ok (.if_icmp .lt 14, 3) := by decide +kernel
theorem dX8_outputByte_12 : decode cX8_outputByte 12 = .ok (.new 332, 3) := by decide +kernel
theorem dX8_outputByte_15 : decode cX8_outputByte 15 = .ok (.dup, 1) := by decide +kernel
theorem dX8_outputByte_16 : decode cX8_outputByte 16 = .ok (.ldc_w 334, 3) := by decide +kernel
theorem dX8_outputByte_19 : decode cX8_outputByte 19 = .ok (.invokespecial 336, 3) := by decide +kernel
theorem dX8_outputByte_22 : decode cX8_outputByte 22 = .ok (.athrow, 1) := by decide +kernel
theorem dX8_outputByte_23 : decode cX8_outputByte 23 = .ok (.aload_n 0, 1) := by decide +kernel
theorem dX8_outputByte_24 : decode cX8_outputByte 24 = .ok (.getfield 39, 3) := by decide +kernel
theorem dX8_outputByte_27 : decode cX8_outputByte 27 = .ok (.iload_n 1, 1) := by decide +kernel
theorem dX8_outputByte_28 : decode cX8_outputByte 28 = .ok (.baload, 1) := by decide +kernel
theorem dX8_outputByte_29 : decode cX8_outputByte 29 = .ok (.ireturn, 1) := by decide +kernel
theorem dX8_save_0 : decode cX8_save 0 = .ok (.iload_n 1, 1) := by decide +kernel
theorem dX8_save_1 : decode cX8_save 1 = .ok (.invokestatic 337, 3) := by decide +kernel
theorem dX8_save_4 : decode cX8_save 4 = .ok (.aload_n 0, 1) := by decide +kernel
theorem dX8_save_5 : decode cX8_save 5 = .ok (.getfield 42, 3) := by decide +kernel
theorem dX8_save_8 : decode cX8_save 8 = .ok (.iload_n 1, 1) := by decide +kernel
theorem dX8_save_9 : decode cX8_save 9 = .ok (.aaload, 1) := by decide +kernel
theorem dX8_save_10 : decode cX8_save 10 = .ok (.astore_n 2, 1) := by decide +kernel
theorem dX8_save_11 : decode cX8_save 11 = .ok (.aload_n 2, 1) := by decide +kernel
theorem dX8_save_12 : decode cX8_save 12 = .ok (.ifnonnull 18, 3) := by decide +kernel
theorem dX8_save_15 : decode cX8_save 15 = .ok (.new 7, 3) := by decide +kernel
theorem dX8_save_18 : decode cX8_save 18 = .ok (.dup, 1) := by decide +kernel
theorem dX8_save_19 : decode cX8_save 19 = .ok (.invokespecial 9, 3) := by decide +kernel
theorem dX8_save_22 : decode cX8_save 22 = .ok (.astore_n 2, 1) := by decide +kernel
theorem dX8_save_23 : decode cX8_save 23 = .ok (.aload_n 0, 1) := by decide +kernel
theorem dX8_save_24 : decode cX8_save 24 = .ok (.getfield 42, 3) := by decide +kernel
theorem dX8_save_27 : decode cX8_save 27 = .ok (.iload_n 1, 1) := by decide +kernel
theorem dX8_save_28 : decode cX8_save 28 = .ok (.aload_n 2, 1) := by decide +kernel
theorem dX8_save_29 : decode cX8_save 29 = .ok (.aastore, 1) := by decide +kernel
theorem dX8_save_30 : decode cX8_save 30 = .ok (.aload_n 2, 1) := by decide +kernel
theorem dX8_save_31 : decode cX8_save 31 = .ok (.aload_n 0, 1) := by decide +kernel
theorem dX8_save_32 : decode cX8_save 32 = .ok (.getfield 10, 3) := by decide +kernel
theorem dX8_save_35 : decode cX8_save 35 = .ok (.invokevirtual 104, 3) := by decide +kernel
theorem dX8_save_38 : decode cX8_save 38 = .ok (.aload_n 0, 1) := by decide +kernel
theorem dX8_save_39 : decode cX8_save 39 = .ok (.getfield 10, 3) := by decide +kernel
theorem dX8_save_42 : decode cX8_save 42 = .ok (.getfield 117, 3) := by decide +kernel
theorem dX8_save_45 : decode cX8_save 45 = .ok (.ireturn, 1) := by decide +kernel
theorem dX8_restore_0 : decode cX8_restore 0 = .ok (.iload_n 1, 1) := by decide +kernel
theorem dX8_restore_1 : decode cX8_restore 1 = .ok (.invokestatic 337, 3) := by decide +kernel
theorem dX8_restore_4 : decode cX8_restore 4 = .ok (.aload_n 0, 1) := by decide +kernel
theorem dX8_restore_5 : decode cX8_restore 5 = .ok (.getfield 42, 3) := by decide +kernel
theorem dX8_restore_8 : decode cX8_restore 8 = .ok (.iload_n 1, 1) := by decide +kernel
theorem dX8_restore_9 : decode cX8_restore 9 = .ok (.aaload, 1) := by decide +kernel
theorem dX8_restore_10 : decode cX8_restore 10 = .ok (.astore_n 2, 1) := by decide +kernel
theorem dX8_restore_11 : decode cX8_restore 11 = .ok (.aload_n 2, 1) := by decide +kernel
theorem dX8_restore_12 : decode cX8_restore 12 = .ok (.ifnonnull 14, 3) := by decide +kernel
theorem dX8_restore_15 : decode cX8_restore 15 = .ok (.new 72, 3) := by decide +kernel
theorem dX8_restore_18 : decode cX8_restore 18 = .ok (.dup, 1) := by decide +kernel
theorem dX8_restore_19 : decode cX8_restore 19 = .ok (.ldc_w 340, 3) := by decide +kernel
theorem dX8_restore_22 : decode cX8_restore 22 = .ok (.invokespecial 76, 3) := by decide +kernel
theorem dX8_restore_25 : decode cX8_restore 25 = .ok (.athrow, 1) := by decide +kernel
theorem dX8_restore_26 : decode cX8_restore 26 = .ok (.aload_n 0, 1) := by decide +kernel
theorem dX8_restore_27 : decode cX8_restore 27 = .ok (.invokevirtual 101, 3) := by decide +kernel
theorem dX8_restore_30 : decode cX8_restore 30 = .ok (.aload_n 0, 1) := by decide +kernel
theorem dX8_restore_31 : decode cX8_restore 31 = .ok (.getfield 10, 3) := by decide +kernel
theorem dX8_restore_34 : decode cX8_restore 34 = .ok (.aload_n 2, 1) := by decide +kernel
theorem dX8_restore_35 : decode cX8_restore 35 = .ok (.invokevirtual 104, 3) := by decide +kernel
theorem dX8_restore_38 : decode cX8_restore 38 = .ok (.aload_n 0, 1) := by decide +kernel
theorem dX8_restore_39 : decode cX8_restore 39 = .ok (.getfield 10, 3) := by decide +kernel
theorem dX8_restore_42 : decode cX8_restore 42 = .ok (.getfield 117, 3) := by decide +kernel
theorem dX8_restore_45 : decode cX8_restore 45 = .ok (.ireturn, 1) := by decide +kernel
theorem dX8_undo_0 : decode cX8_undo 0 = .ok (.aload_n 0, 1) := by decide +kernel
theorem dX8_undo_1 : decode cX8_undo 1 = .ok (.getfield 342, 3) := by decide +kernel
theorem dX8_undo_4 : decode cX8_undo 4 = .ok (.ifCond .le 26, 3) := by decide +kernel
theorem dX8_undo_7 : decode cX8_undo 7 = .ok (.aload_n 0, 1) := by decide +kernel
theorem dX8_undo_8 : decode cX8_undo 8 = .ok (.getfield 342, 3) := by decide +kernel
theorem dX8_undo_11 : decode cX8_undo 11 = .ok (.bipush 8, 2) := by decide +kernel
theorem dX8_undo_13 : decode cX8_undo 13 = .ok (.if_icmp .gt 17, 3) := by decide +kernel
theorem dX8_undo_16 : decode cX8_undo 16 = .ok (.aload_n 0, 1) := by decide +kernel
theorem dX8_undo_17 : decode cX8_undo 17 = .ok (.getfield 46, 3) := by decide +kernel
theorem dX8_undo_20 : decode cX8_undo 20 = .ok (.aload_n 0, 1) := by decide +kernel
theorem dX8_undo_21 : decode cX8_undo 21 = .ok (.getfield 342, 3) := by decide +kernel
theorem dX8_undo_24 : decode cX8_undo 24 = .ok (.iconst 1, 1) := by decide +kernel
theorem dX8_undo_25 : decode cX8_undo 25 = .ok (.isub, 1) := by decide +kernel
theorem dX8_undo_26 : decode cX8_undo 26 = .ok (.aaload, 1) := by decide +kernel
theorem dX8_undo_27 : decode cX8_undo 27 = .ok (.goto 4, 3) := by decide +kernel
theorem dX8_undo_30 : decode cX8_undo 30 = .ok (.aconst_null, 1) := by decide +kernel
theorem dX8_undo_31 : decode cX8_undo 31 = .ok (.astore_n 1, 1) := by decide +kernel
theorem dX8_undo_32 : decode cX8_undo 32 = .ok (.aload_n 1, 1) := by decide +kernel
theorem dX8_undo_33 : decode cX8_undo 33 = .ok (.ifnonnull 14, 3) := by decide +kernel
theorem dX8_undo_36 : decode cX8_undo 36 = .ok (.new 72, 3) := by decide +kernel
theorem dX8_undo_39 : decode cX8_undo 39 = .ok (.dup, 1) := by decide +kernel
theorem dX8_undo_40 : decode cX8_undo 40 = .ok (.ldc_w 345, 3) := by decide +kernel
theorem dX8_undo_43 : decode cX8_undo 43 = .ok (.invokespecial 76, 3) := by decide +kernel
theorem dX8_undo_46 : decode cX8_undo 46 = .ok (.athrow, 1) := by decide +kernel
theorem dX8_undo_47 : decode cX8_undo 47 = .ok (.aload_n 0, 1) := by decide +kernel
theorem dX8_undo_48 : decode cX8_undo 48 = .ok (.getfield 10, 3) := by decide +kernel
theorem dX8_undo_51 : decode cX8_undo 51 = .ok (.aload_n 1, 1) := by decide +kernel
theorem dX8_undo_52 : decode cX8_undo 52 = .ok (.invokevirtual 104, 3) := by decide +kernel
theorem dX8_undo_55 : decode cX8_undo 55 = .ok (.aload_n 0, 1) := by decide +kernel
theorem dX8_undo_56 : decode cX8_undo 56 = .ok (.dup, 1) := by decide +kernel
theorem dX8_undo_57 : decode cX8_undo 57 = .ok (.getfield 342, 3) := by decide +kernel
theorem dX8_undo_60 : decode cX8_undo 60 = .ok (.iconst 1, 1) := by decide +kernel
theorem dX8_undo_61 : decode cX8_undo 61 = .ok (.isub, 1) := by decide +kernel
theorem dX8_undo_62 : decode cX8_undo 62 = .ok (.putfield 342, 3) := by decide +kernel
theorem dX8_undo_65 : decode cX8_undo 65 = .ok (.aload_n 0, 1) := by decide +kernel
theorem dX8_undo_66 : decode cX8_undo 66 = .ok (.getfield 342, 3) := by decide +kernel
theorem dX8_undo_69 : decode cX8_undo 69 = .ok (.ireturn, 1) := by decide +kernel
theorem dX8_undoDepth_0 : decode cX8_undoDepth 0 = .ok (.aload_n 0, 1) := by decide +kernel
theorem dX8_undoDepth_1 : decode cX8_undoDepth 1 = .ok (.getfield 342, 3) := by decide +kernel
theorem dX8_undoDepth_4 : decode cX8_undoDepth 4 = .ok (.ireturn, 1) := by decide +kernel
theorem dX8_needRange_0 : decode cX8_needRange 0 = .ok (.iload_n 0, 1) := by decide +kernel
theorem dX8_needRange_1 : decode cX8_needRange 1 = .ok (.iload_n 1, 1) := by decide +kernel
theorem dX8_needRange_2 : decode cX8_needRange 2 = .ok (.if_icmp .lt 8, 3) := by decide +kernel
theorem dX8_needRange_5 : decode cX8_needRange 5 = .ok (.iload_n 0, 1) := by decide +kernel
theorem dX8_needRange_6 : decode cX8_needRange 6 = .ok (.iload_n 2, 1) := by decide +kernel
theorem dX8_needRange_7 : decode cX8_needRange 7 = .ok (.if_icmp .le 14, 3) := by decide +kernel
theorem dX8_needRange_10 : decode cX8_needRange 10 = .ok (.new 96, 3) := by decide +kernel
theorem dX8_needRange_13 : decode cX8_needRange 13 = .ok (.dup, 1) := by decide +kernel
theorem dX8_needRange_14 : decode cX8_needRange 14 = .ok (.ldc_w 347, 3) := by decide +kernel
theorem dX8_needRange_17 : decode cX8_needRange 17 = .ok (.invokespecial 100, 3) := by decide +kernel
theorem dX8_needRange_20 : decode cX8_needRange 20 = .ok (.athrow, 1) := by decide +kernel
theorem dX8_needRange_21 : decode cX8_needRange 21 = .ok (.return_, 1) := by decide +kernel
theorem dX8_needIndex_0 : decode cX8_needIndex 0 = .ok (.iload_n 0, 1) := by decide +kernel
theorem dX8_needIndex_1 : decode cX8_needIndex 1 = .ok (.ifCond .lt 8, 3) := by decide +kernel
theorem dX8_needIndex_4 : decode cX8_needIndex 4 = .ok (.iload_n 0, 1) := by decide +kernel
theorem dX8_needIndex_5 : decode cX8_needIndex 5 = .ok (.iload_n 1, 1) := by decide +kernel
theorem dX8_needIndex_6 : decode cX8_needIndex 6 = .ok (.if_icmp .lt 14, 3) := by decide +kernel
theorem dX8_needIndex_9 : decode cX8_needIndex 9 = .ok (.new 349, 3) := by decide +kernel
theorem dX8_needIndex_12 : decode cX8_needIndex 12 = .ok (.dup, 1) := by decide +kernel
theorem dX8_needIndex_13 : decode cX8_needIndex 13 = .ok (.ldc_w 351, 3) := by decide +kernel
theorem dX8_needIndex_16 : decode cX8_needIndex 16 = .ok (.invokespecial 353, 3) := by decide +kernel
theorem dX8_needIndex_19 : decode cX8_needIndex 19 = .ok (.athrow, 1) := by decide +kernel
theorem dX8_needIndex_20 : decode cX8_needIndex 20 = .ok (.return_, 1) := by decide +kernel
theorem dX8_needKind_0 : decode cX8_needKind 0 = .ok (.iload_n 0, 1) := by decide +kernel
theorem dX8_needKind_1 : decode cX8_needKind 1 = .ok (.iconst 3, 1) := by decide +kernel
theorem dX8_needKind_2 : decode cX8_needKind 2 = .ok (.invokestatic 354, 3) := by decide +kernel
theorem dX8_needKind_5 : decode cX8_needKind 5 = .ok (.return_, 1) := by decide +kernel
theorem dX8_needSlot_0 : decode cX8_needSlot 0 = .ok (.iload_n 0, 1) := by decide +kernel
theorem dX8_needSlot_1 : decode cX8_needSlot 1 = .ok (.iconst 2, 1) := by decide +kernel
theorem dX8_needSlot_2 : decode cX8_needSlot 2 = .ok (.invokestatic 354, 3) := by decide +kernel
theorem dX8_needSlot_5 : decode cX8_needSlot 5 = .ok (.return_, 1) := by decide +kernel
theorem dX8_needBaker_0 : decode cX8_needBaker 0 = .ok (.iload_n 1, 1) := by decide +kernel
theorem dX8_needBaker_1 : decode cX8_needBaker 1 = .ok (.aload_n 0, 1) := by decide +kernel
theorem dX8_needBaker_2 : decode cX8_needBaker 2 = .ok (.getfield 10, 3) := by decide +kernel
theorem dX8_needBaker_5 : decode cX8_needBaker 5 = .ok (.getfield 120, 3) := by decide +kernel
theorem dX8_needBaker_8 : decode cX8_needBaker 8 = .ok (.getfield 124, 3) := by decide +kernel
theorem dX8_needBaker_11 : decode cX8_needBaker 11 = .ok (.invokestatic 354, 3) := by decide +kernel
theorem dX8_needBaker_14 : decode cX8_needBaker 14 = .ok (.return_, 1) := by decide +kernel
theorem dX8_needCustomer_0 : decode cX8_needCustomer 0 = .ok (.iload_n 1, 1) := by decide +kernel
theorem dX8_needCustomer_1 : decode cX8_needCustomer 1 = .ok (.aload_n 0, 1) := by decide +kernel
theorem dX8_needCustomer_2 : decode cX8_needCustomer 2 = .ok (.getfield 10, 3) := by decide +kernel
theorem dX8_needCustomer_5 : decode cX8_needCustomer 5 = .ok (.getfield 108, 3) := by decide +kernel
theorem dX8_needCustomer_8 : decode cX8_needCustomer 8 = .ok (.getfield 112, 3) := by decide +kernel
theorem dX8_needCustomer_11 : decode cX8_needCustomer 11 = .ok (.invokestatic 354, 3) := by decide +kernel
theorem dX8_needCustomer_14 : decode cX8_needCustomer 14 = .ok (.return_, 1) := by decide +kernel
theorem dX8_needLoaf_0 : decode cX8_needLoaf 0 = .ok (.iload_n 1, 1) := by decide +kernel
theorem dX8_needLoaf_1 : decode cX8_needLoaf 1 = .ok (.aload_n 0, 1) := by decide +kernel
theorem dX8_needLoaf_2 : decode cX8_needLoaf 2 = .ok (.getfield 10, 3) := by decide +kernel
theorem dX8_needLoaf_5 : decode cX8_needLoaf 5 = .ok (.getfield 127, 3) := by decide +kernel
theorem dX8_needLoaf_8 : decode cX8_needLoaf 8 = .ok (.getfield 131, 3) := by decide +kernel
theorem dX8_needLoaf_11 : decode cX8_needLoaf 11 = .ok (.invokestatic 354, 3) := by decide +kernel
theorem dX8_needLoaf_14 : decode cX8_needLoaf 14 = .ok (.return_, 1) := by decide +kernel
theorem dX8_needEvent_0 : decode cX8_needEvent 0 = .ok (.iload_n 1, 1) := by decide +kernel
theorem dX8_needEvent_1 : decode cX8_needEvent 1 = .ok (.aload_n 0, 1) := by decide +kernel
theorem dX8_needEvent_2 : decode cX8_needEvent 2 = .ok (.getfield 10, 3) := by decide +kernel
theorem dX8_needEvent_5 : decode cX8_needEvent 5 = .ok (.getfield 242, 3) := by decide +kernel
theorem dX8_needEvent_8 : decode cX8_needEvent 8 = .ok (.getfield 246, 3) := by decide +kernel
theorem dX8_needEvent_11 : decode cX8_needEvent 11 = .ok (.invokestatic 354, 3) := by decide +kernel
theorem dX8_needEvent_14 : decode cX8_needEvent 14 = .ok (.return_, 1) := by decide +kernel
theorem dX8_needTrade_0 : decode cX8_needTrade 0 = .ok (.iload_n 1, 1) := by decide +kernel
theorem dX8_needTrade_1 : decode cX8_needTrade 1 = .ok (.ifCond .lt 14, 3) := by decide +kernel
theorem dX8_needTrade_4 : decode cX8_needTrade 4 = .ok (.iload_n 1, 1) := by decide +kernel
theorem dX8_needTrade_5 : decode cX8_needTrade 5 = .ok (.aload_n 0, 1) := by decide +kernel
theorem dX8_needTrade_6 : decode cX8_needTrade 6 = .ok (.getfield 22, 3) := by decide +kernel
theorem dX8_needTrade_9 : decode cX8_needTrade 9 = .ok (.getfield 221, 3) := by decide +kernel
theorem dX8_needTrade_12 : decode cX8_needTrade 12 = .ok (.if_icmp .lt 14, 3) := by decide +kernel
theorem dX8_needTrade_15 : decode cX8_needTrade 15 = .ok (.new 332, 3) := by decide +kernel
theorem dX8_needTrade_18 : decode cX8_needTrade 18 = .ok (.dup, 1) := by decide +kernel
theorem dX8_needTrade_19 : decode cX8_needTrade 19 = .ok (.ldc_w 357, 3) := by decide +kernel
theorem dX8_needTrade_22 : decode cX8_needTrade 22 = .ok (.invokespecial 336, 3) := by decide +kernel
theorem dX8_needTrade_25 : decode cX8_needTrade 25 = .ok (.athrow, 1) := by decide +kernel
theorem dX8_needTrade_26 : decode cX8_needTrade 26 = .ok (.return_, 1) := by decide +kernel
theorem dX8_appendWord_0 : decode cX8_appendWord 0 = .ok (.bipush 24, 2) := by decide +kernel
theorem dX8_appendWord_2 : decode cX8_appendWord 2 = .ok (.istore_n 2, 1) := by decide +kernel
theorem dX8_appendWord_3 : decode cX8_appendWord 3 = .ok (.iload_n 2, 1) := by decide +kernel
theorem dX8_appendWord_4 : decode cX8_appendWord 4 = .ok (.ifCond .lt 42, 3) := by decide +kernel
theorem dX8_appendWord_7 : decode cX8_appendWord 7 = .ok (.aload_n 0, 1) := by decide +kernel
theorem dX8_appendWord_8 : decode cX8_appendWord 8 = .ok (.getfield 69, 3) := by decide +kernel
theorem dX8_appendWord_11 : decode cX8_appendWord 11 = .ok (.sipush 600, 3) := by decide +kernel
theorem dX8_appendWord_14 : decode cX8_appendWord 14 = .ok (.if_icmp .ge 32, 3) := by decide +kernel
theorem dX8_appendWord_17 : decode cX8_appendWord 17 = .ok (.aload_n 0, 1) := by decide +kernel
theorem dX8_appendWord_18 : decode cX8_appendWord 18 = .ok (.getfield 26, 3) := by decide +kernel
theorem dX8_appendWord_21 : decode cX8_appendWord 21 = .ok (.aload_n 0, 1) := by decide +kernel
theorem dX8_appendWord_22 : decode cX8_appendWord 22 = .ok (.getfield 69, 3) := by decide +kernel
theorem dX8_appendWord_25 : decode cX8_appendWord 25 = .ok (.iload_n 1, 1) := by decide +kernel
theorem dX8_appendWord_26 : decode cX8_appendWord 26 = .ok (.iload_n 2, 1) := by decide +kernel
theorem dX8_appendWord_27 : decode cX8_appendWord 27 = .ok (.ishr, 1) := by decide +kernel
theorem dX8_appendWord_28 : decode cX8_appendWord 28 = .ok (.i2b, 1) := by decide +kernel
theorem dX8_appendWord_29 : decode cX8_appendWord 29 = .ok (.bastore, 1) := by decide +kernel
theorem dX8_appendWord_30 : decode cX8_appendWord 30 = .ok (.aload_n 0, 1) := by decide +kernel
theorem dX8_appendWord_31 : decode cX8_appendWord 31 = .ok (.dup, 1) := by decide +kernel
theorem dX8_appendWord_32 : decode cX8_appendWord 32 = .ok (.getfield 69, 3) := by decide +kernel
theorem dX8_appendWord_35 : decode cX8_appendWord 35 = .ok (.iconst 1, 1) := by decide +kernel
theorem dX8_appendWord_36 : decode cX8_appendWord 36 = .ok (.iadd, 1) := by decide +kernel
theorem dX8_appendWord_37 : decode cX8_appendWord 37 = .ok (.putfield 69, 3) := by decide +kernel
theorem dX8_appendWord_40 : decode cX8_appendWord 40 = .ok (.iinc 2 (-8), 3) := by decide +kernel
theorem dX8_appendWord_43 : decode cX8_appendWord 43 = .ok (.goto (-40), 3) := by decide +kernel
theorem dX8_appendWord_46 : decode cX8_appendWord 46 = .ok (.return_, 1) := by decide +kernel
theorem dX8_write_0 : decode cX8_write 0 = .ok (.aload_n 0, 1) := by decide +kernel
theorem dX8_write_1 : decode cX8_write 1 = .ok (.getfield 320, 3) := by decide +kernel
theorem dX8_write_4 : decode cX8_write 4 = .ok (.bipush 120, 2) := by decide +kernel
theorem dX8_write_6 : decode cX8_write 6 = .ok (.if_icmp .ge 24, 3) := by decide +kernel
theorem dX8_write_9 : decode cX8_write 9 = .ok (.aload_n 0, 1) := by decide +kernel
theorem dX8_write_10 : decode cX8_write 10 = .ok (.getfield 39, 3) := by decide +kernel
theorem dX8_write_13 : decode cX8_write 13 = .ok (.aload_n 0, 1) := by decide +kernel
theorem dX8_write_14 : decode cX8_write 14 = .ok (.getfield 320, 3) := by decide +kernel
theorem dX8_write_17 : decode cX8_write 17 = .ok (.iload_n 1, 1) := by decide +kernel
theorem dX8_write_18 : decode cX8_write 18 = .ok (.i2b, 1) := by decide +kernel
theorem dX8_write_19 : decode cX8_write 19 = .ok (.bastore, 1) := by decide +kernel
theorem dX8_write_20 : decode cX8_write 20 = .ok (.aload_n 0, 1) := by decide +kernel
theorem dX8_write_21 : decode cX8_write 21 = .ok (.dup, 1) := by decide +kernel
theorem dX8_write_22 : decode cX8_write 22 = .ok (.getfield 320, 3) := by decide +kernel
theorem dX8_write_25 : decode cX8_write 25 = .ok (.iconst 1, 1) := by decide +kernel
theorem dX8_write_26 : decode cX8_write 26 = .ok (.iadd, 1) := by decide +kernel
theorem dX8_write_27 : decode cX8_write 27 = .ok (.putfield 320, 3) := by decide +kernel
theorem dX8_write_30 : decode cX8_write 30 = .ok (.return_, 1) := by decide +kernel
theorem dX8_writeName_0 : decode cX8_writeName 0 = .ok (.iload_n 1, 1) := by decide +kernel
theorem dX8_writeName_1 : decode cX8_writeName 1 = .ok (.invokestatic 359, 3) := by decide +kernel
theorem dX8_writeName_4 : decode cX8_writeName 4 = .ok (.istore_n 2, 1) := by decide +kernel
theorem dX8_writeName_5 : decode cX8_writeName 5 = .ok (.iconst 0, 1) := by decide +kernel
theorem dX8_writeName_6 : decode cX8_writeName 6 = .ok (.istore_n 3, 1) := by decide +kernel
theorem dX8_writeName_7 : decode cX8_writeName 7 = .ok (.iload_n 3, 1) := by decide +kernel
theorem dX8_writeName_8 : decode cX8_writeName 8 = .ok (.iload_n 2, 1) := by decide +kernel
theorem dX8_writeName_9 : decode cX8_writeName 9 = .ok (.if_icmp .ge 18, 3) := by decide +kernel
theorem dX8_writeName_12 : decode cX8_writeName 12 = .ok (.aload_n 0, 1) := by decide +kernel
theorem dX8_writeName_13 : decode cX8_writeName 13 = .ok (.iload_n 1, 1) := by decide +kernel
theorem dX8_writeName_14 : decode cX8_writeName 14 = .ok (.iload_n 3, 1) := by decide +kernel
theorem dX8_writeName_15 : decode cX8_writeName 15 = .ok (.invokestatic 362, 3) := by decide +kernel
theorem dX8_writeName_18 : decode cX8_writeName 18 = .ok (.invokevirtual 323, 3) := by decide +kernel
theorem dX8_writeName_21 : decode cX8_writeName 21 = .ok (.iinc 3 1, 3) := by decide +kernel
theorem dX8_writeName_24 : decode cX8_writeName 24 = .ok (.goto (-17), 3) := by decide +kernel
theorem dX8_writeName_27 : decode cX8_writeName 27 = .ok (.return_, 1) := by decide +kernel
theorem dX8_writeNumber_0 : decode cX8_writeNumber 0 = .ok (.iload_n 1, 1) := by decide +kernel
theorem dX8_writeNumber_1 : decode cX8_writeNumber 1 = .ok (.bipush 10, 2) := by decide +kernel
theorem dX8_writeNumber_3 : decode cX8_writeNumber 3 = .ok (.if_icmp .lt 14, 3) := by decide +kernel
theorem dX8_writeNumber_6 : decode cX8_writeNumber 6 = .ok (.aload_n 0, 1) := by decide +kernel
theorem dX8_writeNumber_7 : decode cX8_writeNumber 7 = .ok (.bipush 48, 2) := by decide +kernel
theorem dX8_writeNumber_9 : decode cX8_writeNumber 9 = .ok (.iload_n 1, 1) := by decide +kernel
theorem dX8_writeNumber_10 : decode cX8_writeNumber 10 = .ok (.bipush 10, 2) := by decide +kernel
theorem dX8_writeNumber_12 : decode cX8_writeNumber 12 = .ok (.idiv, 1) := by decide +kernel
theorem dX8_writeNumber_13 : decode cX8_writeNumber 13 = .ok (.iadd, 1) := by decide +kernel
theorem dX8_writeNumber_14 : decode cX8_writeNumber 14 = .ok (.invokevirtual 323, 3) := by decide +kernel
theorem dX8_writeNumber_17 : decode cX8_writeNumber 17 = .ok (.aload_n 0, 1) := by decide +kernel
theorem dX8_writeNumber_18 : decode cX8_writeNumber 18 = .ok (.bipush 48, 2) := by decide +kernel
theorem dX8_writeNumber_20 : decode cX8_writeNumber 20 = .ok (.iload_n 1, 1) := by decide +kernel
theorem dX8_writeNumber_21 : decode cX8_writeNumber 21 = .ok (.bipush 10, 2) := by decide +kernel
theorem dX8_writeNumber_23 : decode cX8_writeNumber 23 = .ok (.irem, 1) := by decide +kernel
theorem dX8_writeNumber_24 : decode cX8_writeNumber 24 = .ok (.iadd, 1) := by decide +kernel
theorem dX8_writeNumber_25 : decode cX8_writeNumber 25 = .ok (.invokevirtual 323, 3) := by decide +kernel
theorem dX8_writeNumber_28 : decode cX8_writeNumber 28 = .ok (.return_, 1) := by decide +kernel
theorem dX8_letterOf_0 : decode cX8_letterOf 0 = .ok (.iload_n 1, 1) := by decide +kernel
theorem dX8_letterOf_1 : decode cX8_letterOf 1 = .ok (.ifCond .lt 11, 3) := by decide +kernel
theorem dX8_letterOf_4 : decode cX8_letterOf 4 = .ok (.iload_n 1, 1) := by decide +kernel
theorem dX8_letterOf_5 : decode cX8_letterOf 5 = .ok (.iload_n 0, 1) := by decide +kernel
theorem dX8_letterOf_6 : decode cX8_letterOf 6 = .ok (.invokestatic 359, 3) := by decide +kernel
theorem dX8_letterOf_9 : decode cX8_letterOf 9 = .ok (.if_icmp .lt 14, 3) := by decide +kernel
theorem dX8_letterOf_12 : decode cX8_letterOf 12 = .ok (.new 332, 3) := by decide +kernel
theorem dX8_letterOf_15 : decode cX8_letterOf 15 = .ok (.dup, 1) := by decide +kernel
theorem dX8_letterOf_16 : decode cX8_letterOf 16 = .ok (.ldc_w 365, 3) := by decide +kernel
theorem dX8_letterOf_19 : decode cX8_letterOf 19 = .ok (.invokespecial 336, 3) := by decide +kernel
theorem dX8_letterOf_22 : decode cX8_letterOf 22 = .ok (.athrow, 1) := by decide +kernel
theorem dX8_letterOf_23 : decode cX8_letterOf 23 = .ok (.iload_n 0, 1) := by decide +kernel
theorem dX8_letterOf_24 : decode cX8_letterOf 24 = .ok (.iload_n 1, 1) := by decide +kernel
theorem dX8_letterOf_25 : decode cX8_letterOf 25 = .ok (.invokestatic 362, 3) := by decide +kernel
theorem dX8_letterOf_28 : decode cX8_letterOf 28 = .ok (.ireturn, 1) := by decide +kernel
theorem dX8_lookAhead_0 : decode cX8_lookAhead 0 = .ok (.aload_n 0, 1) := by decide +kernel
theorem dX8_lookAhead_1 : decode cX8_lookAhead 1 = .ok (.getfield 16, 3) := by decide +kernel
theorem dX8_lookAhead_4 : decode cX8_lookAhead 4 = .ok (.aload_n 0, 1) := by decide +kernel
theorem dX8_lookAhead_5 : decode cX8_lookAhead 5 = .ok (.getfield 10, 3) := by decide +kernel
theorem dX8_lookAhead_8 : decode cX8_lookAhead 8 = .ok (.invokevirtual 104, 3) := by decide +kernel
theorem dX8_lookAhead_11 : decode cX8_lookAhead 11 = .ok (.iconst 0, 1) := by decide +kernel
theorem dX8_lookAhead_12 : decode cX8_lookAhead 12 = .ok (.istore_n 2, 1) := by decide +kernel
theorem dX8_lookAhead_13 : decode cX8_lookAhead 13 = .ok (.iload_n 2, 1) := by decide +kernel
theorem dX8_lookAhead_14 : decode cX8_lookAhead 14 = .ok (.iload_n 1, 1) := by decide +kernel
theorem dX8_lookAhead_15 : decode cX8_lookAhead 15 = .ok (.if_icmp .ge 16, 3) := by decide +kernel
theorem dX8_lookAhead_18 : decode cX8_lookAhead 18 = .ok (.aload_n 0, 1) := by decide +kernel
theorem dX8_lookAhead_19 : decode cX8_lookAhead 19 = .ok (.getfield 16, 3) := by decide +kernel
theorem dX8_lookAhead_22 : decode cX8_lookAhead 22 = .ok (.invokevirtual 283, 3) := by decide +kernel
theorem dX8_lookAhead_25 : decode cX8_lookAhead 25 = .ok (.iinc 2 1, 3) := by decide +kernel
theorem dX8_lookAhead_28 : decode cX8_lookAhead 28 = .ok (.goto (-15), 3) := by decide +kernel
theorem dX8_lookAhead_31 : decode cX8_lookAhead 31 = .ok (.return_, 1) := by decide +kernel
theorem dX8_remember_0 : decode cX8_remember 0 = .ok (.aload_n 0, 1) := by decide +kernel
theorem dX8_remember_1 : decode cX8_remember 1 = .ok (.getfield 342, 3) := by decide +kernel
theorem dX8_remember_4 : decode cX8_remember 4 = .ok (.bipush 8, 2) := by decide +kernel
theorem dX8_remember_6 : decode cX8_remember 6 = .ok (.if_icmp .lt 7, 3) := by decide +kernel
theorem dX8_remember_9 : decode cX8_remember 9 = .ok (.aload_n 0, 1) := by decide +kernel
theorem dX8_remember_10 : decode cX8_remember 10 = .ok (.invokevirtual 367, 3) := by decide +kernel
theorem dX8_remember_13 : decode cX8_remember 13 = .ok (.aload_n 0, 1) := by decide +kernel
theorem dX8_remember_14 : decode cX8_remember 14 = .ok (.getfield 46, 3) := by decide +kernel
theorem dX8_remember_17 : decode cX8_remember 17 = .ok (.aload_n 0, 1) := by decide +kernel
theorem dX8_remember_18 : decode cX8_remember 18 = .ok (.getfield 342, 3) := by decide +kernel
theorem dX8_remember_21 : decode cX8_remember 21 = .ok (.aaload, 1) := by decide +kernel
theorem dX8_remember_22 : decode cX8_remember 22 = .ok (.astore_n 1, 1) := by decide +kernel
theorem dX8_remember_23 : decode cX8_remember 23 = .ok (.aload_n 1, 1) := by decide +kernel
theorem dX8_remember_24 : decode cX8_remember 24 = .ok (.ifnonnull 21, 3) := by decide +kernel
theorem dX8_remember_27 : decode cX8_remember 27 = .ok (.new 7, 3) := by decide +kernel
theorem dX8_remember_30 : decode cX8_remember 30 = .ok (.dup, 1) := by decide +kernel
theorem dX8_remember_31 : decode cX8_remember 31 = .ok (.invokespecial 9, 3) := by decide +kernel
theorem dX8_remember_34 : decode cX8_remember 34 = .ok (.astore_n 1, 1) := by decide +kernel
theorem dX8_remember_35 : decode cX8_remember 35 = .ok (.aload_n 0, 1) := by decide +kernel
theorem dX8_remember_36 : decode cX8_remember 36 = .ok (.getfield 46, 3) := by decide +kernel
theorem dX8_remember_39 : decode cX8_remember 39 = .ok (.aload_n 0, 1) := by decide +kernel
theorem dX8_remember_40 : decode cX8_remember 40 = .ok (.getfield 342, 3) := by decide +kernel
theorem dX8_remember_43 : decode cX8_remember 43 = .ok (.aload_n 1, 1) := by decide +kernel
theorem dX8_remember_44 : decode cX8_remember 44 = .ok (.aastore, 1) := by decide +kernel
theorem dX8_remember_45 : decode cX8_remember 45 = .ok (.aload_n 1, 1) := by decide +kernel
theorem dX8_remember_46 : decode cX8_remember 46 = .ok (.aload_n 0, 1) := by decide +kernel
theorem dX8_remember_47 : decode cX8_remember 47 = .ok (.getfield 10, 3) := by decide +kernel
theorem dX8_remember_50 : decode cX8_remember 50 = .ok (.invokevirtual 104, 3) := by decide +kernel
theorem dX8_remember_53 : decode cX8_remember 53 = .ok (.aload_n 0, 1) := by decide +kernel
theorem dX8_remember_54 : decode cX8_remember 54 = .ok (.dup, 1) := by decide +kernel
theorem dX8_remember_55 : decode cX8_remember 55 = .ok (.getfield 342, 3) := by decide +kernel
theorem dX8_remember_58 : decode cX8_remember 58 = .ok (.iconst 1, 1) := by decide +kernel
theorem dX8_remember_59 : decode cX8_remember 59 = .ok (.iadd, 1) := by decide +kernel
theorem dX8_remember_60 : decode cX8_remember 60 = .ok (.putfield 342, 3) := by decide +kernel
theorem dX8_remember_63 : decode cX8_remember 63 = .ok (.return_, 1) := by decide +kernel
theorem dX8_forgetOldest_0 : decode cX8_forgetOldest 0 = .ok (.aload_n 0, 1) := by decide +kernel
theorem dX8_forgetOldest_1 : decode cX8_forgetOldest 1 = .ok (.getfield 46, 3) := by decide +kernel
theorem dX8_forgetOldest_4 : decode cX8_forgetOldest 4 = .ok (.iconst 0, 1) := by decide +kernel
theorem dX8_forgetOldest_5 : decode cX8_forgetOldest 5 = .ok (.aaload, 1) := by decide +kernel
theorem dX8_forgetOldest_6 : decode cX8_forgetOldest 6 = .ok (.astore_n 1, 1) := by decide +kernel
theorem dX8_forgetOldest_7 : decode cX8_forgetOldest 7 = .ok (.iconst 1, 1) := by decide +kernel
theorem dX8_forgetOldest_8 : decode cX8_forgetOldest 8 = .ok (.istore_n 2, 1) := by decide +kernel
theorem dX8_forgetOldest_9 : decode cX8_forgetOldest 9 = .ok (.iload_n 2, 1) := by decide +kernel
theorem dX8_forgetOldest_10 : decode cX8_forgetOldest 10 = .ok (.bipush 8, 2) := by decide +kernel
theorem dX8_forgetOldest_12 : decode cX8_forgetOldest 12 = .ok (.if_icmp .ge 23, 3) := by decide +kernel
theorem dX8_forgetOldest_15 : decode cX8_forgetOldest 15 = .ok (.aload_n 0, 1) := by decide +kernel
theorem dX8_forgetOldest_16 : decode cX8_forgetOldest 16 = .ok (.getfield 46, 3) := by decide +kernel
theorem dX8_forgetOldest_19 : decode cX8_forgetOldest 19 = .ok (.iload_n 2, 1) := by decide +kernel
theorem dX8_forgetOldest_20 : decode cX8_forgetOldest 20 = .ok (.iconst 1, 1) := by decide +kernel
theorem dX8_forgetOldest_21 : decode cX8_forgetOldest 21 = .ok (.isub, 1) := by decide +kernel
theorem dX8_forgetOldest_22 : decode cX8_forgetOldest 22 = .ok (.aload_n 0, 1) := by decide +kernel
theorem dX8_forgetOldest_23 : decode cX8_forgetOldest 23 = .ok (.getfield 46, 3) := by decide +kernel
theorem dX8_forgetOldest_26 : decode cX8_forgetOldest 26 = .ok (.iload_n 2, 1) := by decide +kernel
theorem dX8_forgetOldest_27 : decode cX8_forgetOldest 27 = .ok (.aaload, 1) := by decide +kernel
theorem dX8_forgetOldest_28 : decode cX8_forgetOldest 28 = .ok (.aastore, 1) := by decide +kernel
theorem dX8_forgetOldest_29 : decode cX8_forgetOldest 29 = .ok (.iinc 2 1, 3) := by decide +kernel
theorem dX8_forgetOldest_32 : decode cX8_forgetOldest 32 = .ok (.goto (-23), 3) := by decide +kernel
theorem dX8_forgetOldest_35 : decode cX8_forgetOldest 35 = .ok (.aload_n 0, 1) := by decide +kernel
theorem dX8_forgetOldest_36 : decode cX8_forgetOldest 36 = .ok (.getfield 46, 3) := by decide +kernel
theorem dX8_forgetOldest_39 : decode cX8_forgetOldest 39 = .ok (.bipush 7, 2) := by decide +kernel
theorem dX8_forgetOldest_41 : decode cX8_forgetOldest 41 = .ok (.aload_n 1, 1) := by decide +kernel
theorem dX8_forgetOldest_42 : decode cX8_forgetOldest 42 = .ok (.aastore, 1) := by decide +kernel
theorem dX8_forgetOldest_43 : decode cX8_forgetOldest 43 = .ok (.aload_n 0, 1) := by decide +kernel
theorem dX8_forgetOldest_44 : decode cX8_forgetOldest 44 = .ok (.bipush 7, 2) := by decide +kernel
theorem dX8_forgetOldest_46 : decode cX8_forgetOldest 46 = .ok (.putfield 342, 3) := by decide +kernel
theorem dX8_forgetOldest_49 : decode cX8_forgetOldest 49 = .ok (.return_, 1) := by decide +kernel
theorem dX8_packName_0 : decode cX8_packName 0 = .ok (.iload_n 1, 1) := by decide +kernel
theorem dX8_packName_1 : decode cX8_packName 1 = .ok (.ifCond .lt 21, 3) := by decide +kernel
theorem dX8_packName_4 : decode cX8_packName 4 = .ok (.iload_n 2, 1) := by decide +kernel
theorem dX8_packName_5 : decode cX8_packName 5 = .ok (.aload_n 0, 1) := by decide +kernel
theorem dX8_packName_6 : decode cX8_packName 6 = .ok (.arraylength, 1) := by decide +kernel
theorem dX8_packName_7 : decode cX8_packName 7 = .ok (.if_icmp .gt 15, 3) := by decide +kernel
theorem dX8_packName_10 : decode cX8_packName 10 = .ok (.iload_n 2, 1) := by decide +kernel
theorem dX8_packName_11 : decode cX8_packName 11 = .ok (.iload_n 1, 1) := by decide +kernel
theorem dX8_packName_12 : decode cX8_packName 12 = .ok (.if_icmp .le 10, 3) := by decide +kernel
theorem dX8_packName_15 : decode cX8_packName 15 = .ok (.iload_n 2, 1) := by decide +kernel
theorem dX8_packName_16 : decode cX8_packName 16 = .ok (.iload_n 1, 1) := by decide +kernel
theorem dX8_packName_17 : decode cX8_packName 17 = .ok (.isub, 1) := by decide +kernel
theorem dX8_packName_18 : decode cX8_packName 18 = .ok (.iconst 4, 1) := by decide +kernel
theorem dX8_packName_19 : decode cX8_packName 19 = .ok (.if_icmp .le 5, 3) := by decide +kernel
theorem dX8_packName_22 : decode cX8_packName 22 = .ok (.iconst (-1), 1) := by decide +kernel
theorem dX8_packName_23 : decode cX8_packName 23 = .ok (.ireturn, 1) := by decide +kernel
theorem dX8_packName_24 : decode cX8_packName 24 = .ok (.iconst 0, 1) := by decide +kernel
theorem dX8_packName_25 : decode cX8_packName 25 = .ok (.istore_n 3, 1) := by decide +kernel
theorem dX8_packName_26 : decode cX8_packName 26 = .ok (.iload_n 1, 1) := by decide +kernel
theorem dX8_packName_27 : decode cX8_packName 27 = .ok (.istore 4, 2) := by decide +kernel
theorem dX8_packName_29 : decode cX8_packName 29 = .ok (.iload 4, 2) := by decide +kernel
theorem dX8_packName_31 : decode cX8_packName 31 = .ok (.iload_n 2, 1) := by decide +kernel
theorem dX8_packName_32 : decode cX8_packName 32 = .ok (.if_icmp .ge 36, 3) := by decide +kernel
theorem dX8_packName_35 : decode cX8_packName 35 = .ok (.aload_n 0, 1) := by decide +kernel
theorem dX8_packName_36 : decode cX8_packName 36 = .ok (.iload 4, 2) := by decide +kernel
theorem dX8_packName_38 : decode cX8_packName 38 = .ok (.baload, 1) := by decide +kernel
theorem dX8_packName_39 : decode cX8_packName 39 = .ok (.invokestatic 370, 3) := by decide +kernel
theorem dX8_packName_42 : decode cX8_packName 42 = .ok (.ifCond .ne 5, 3) := by decide +kernel
theorem dX8_packName_45 : decode cX8_packName 45 = .ok (.iconst (-1), 1) := by decide +kernel
theorem dX8_packName_46 : decode cX8_packName 46 = .ok (.ireturn, 1) := by decide +kernel
theorem dX8_packName_47 : decode cX8_packName 47 = .ok (.iload_n 3, 1) := by decide +kernel
theorem dX8_packName_48 : decode cX8_packName 48 = .ok (.aload_n 0, 1) := by decide +kernel
theorem dX8_packName_49 : decode cX8_packName 49 = .ok (.iload 4, 2) := by decide +kernel
theorem dX8_packName_51 : decode cX8_packName 51 = .ok (.baload, 1) := by decide +kernel
theorem dX8_packName_52 : decode cX8_packName 52 = .ok (.bipush 8, 2) := by decide +kernel
theorem dX8_packName_54 : decode cX8_packName 54 = .ok (.iload 4, 2) := by decide +kernel
theorem dX8_packName_56 : decode cX8_packName 56 = .ok (.iload_n 1, 1) := by decide +kernel
theorem dX8_packName_57 : decode cX8_packName 57 = .ok (.isub, 1) := by decide +kernel
theorem dX8_packName_58 : decode cX8_packName 58 = .ok (.imul, 1) := by decide +kernel
theorem dX8_packName_59 : decode cX8_packName 59 = .ok (.ishl, 1) := by decide +kernel
theorem dX8_packName_60 : decode cX8_packName 60 = .ok (.ior, 1) := by decide +kernel
theorem dX8_packName_61 : decode cX8_packName 61 = .ok (.istore_n 3, 1) := by decide +kernel
theorem dX8_packName_62 : decode cX8_packName 62 = .ok (.iinc 4 1, 3) := by decide +kernel
theorem dX8_packName_65 : decode cX8_packName 65 = .ok (.goto (-36), 3) := by decide +kernel
theorem dX8_packName_68 : decode cX8_packName 68 = .ok (.iload_n 3, 1) := by decide +kernel
theorem dX8_packName_69 : decode cX8_packName 69 = .ok (.ireturn, 1) := by decide +kernel
theorem dX8_letterAt_0 : decode cX8_letterAt 0 = .ok (.iload_n 0, 1) := by decide +kernel
theorem dX8_letterAt_1 : decode cX8_letterAt 1 = .ok (.bipush 8, 2) := by decide +kernel
theorem dX8_letterAt_3 : decode cX8_letterAt 3 = .ok (.iload_n 1, 1) := by decide +kernel
theorem dX8_letterAt_4 : decode cX8_letterAt 4 = .ok (.imul, 1) := by decide +kernel
theorem dX8_letterAt_5 : decode cX8_letterAt 5 = .ok (.ishr, 1) := by decide +kernel
theorem dX8_letterAt_6 : decode cX8_letterAt 6 = .ok (.sipush 255, 3) := by decide +kernel
theorem dX8_letterAt_9 : decode cX8_letterAt 9 = .ok (.iand, 1) := by decide +kernel
theorem dX8_letterAt_10 : decode cX8_letterAt 10 = .ok (.ireturn, 1) := by decide +kernel
theorem dX8_nameLength_0 : decode cX8_nameLength 0 = .ok (.iconst 0, 1) := by decide +kernel
theorem dX8_nameLength_1 : decode cX8_nameLength 1 = .ok (.istore_n 1, 1) := by decide +kernel
theorem dX8_nameLength_2 : decode cX8_nameLength 2 = .ok (.iload_n 1, 1) := by decide +kernel
theorem dX8_nameLength_3 : decode cX8_nameLength 3 = .ok (.iconst 4, 1) := by decide +kernel
theorem dX8_nameLength_4 : decode cX8_nameLength 4 = .ok (.if_icmp .ge 17, 3) := by decide +kernel
theorem dX8_nameLength_7 : decode cX8_nameLength 7 = .ok (.iload_n 0, 1) := by decide +kernel
theorem dX8_nameLength_8 : decode cX8_nameLength 8 = .ok (.iload_n 1, 1) := by decide +kernel
theorem dX8_nameLength_9 : decode cX8_nameLength 9 = .ok (.invokestatic 362, 3) := by decide +kernel
theorem dX8_nameLength_12 : decode cX8_nameLength 12 = .ok (.ifCond .eq 9, 3) := by decide +kernel
theorem dX8_nameLength_15 : decode cX8_nameLength 15 = .ok (.iinc 1 1, 3) := by decide +kernel
theorem dX8_nameLength_18 : decode cX8_nameLength 18 = .ok (.goto (-16), 3) := by decide +kernel
theorem dX8_nameLength_21 : decode cX8_nameLength 21 = .ok (.iload_n 1, 1) := by decide +kernel
theorem dX8_nameLength_22 : decode cX8_nameLength 22 = .ok (.ireturn, 1) := by decide +kernel
theorem dX8_isLetter_0 : decode cX8_isLetter 0 = .ok (.iload_n 0, 1) := by decide +kernel
theorem dX8_isLetter_1 : decode cX8_isLetter 1 = .ok (.bipush 97, 2) := by decide +kernel
theorem dX8_isLetter_3 : decode cX8_isLetter 3 = .ok (.if_icmp .lt 13, 3) := by decide +kernel
theorem dX8_isLetter_6 : decode cX8_isLetter 6 = .ok (.iload_n 0, 1) := by decide +kernel
theorem dX8_isLetter_7 : decode cX8_isLetter 7 = .ok (.bipush 122, 2) := by decide +kernel
theorem dX8_isLetter_9 : decode cX8_isLetter 9 = .ok (.if_icmp .gt 7, 3) := by decide +kernel
theorem dX8_isLetter_12 : decode cX8_isLetter 12 = .ok (.iconst 1, 1) := by decide +kernel
theorem dX8_isLetter_13 : decode cX8_isLetter 13 = .ok (.goto 4, 3) := by decide +kernel
theorem dX8_isLetter_16 : decode cX8_isLetter 16 = .ok (.iconst 0, 1) := by decide +kernel
theorem dX8_isLetter_17 : decode cX8_isLetter 17 = .ok (.ireturn, 1) := by decide +kernel
theorem dX8_isDigit_0 : decode cX8_isDigit 0 = .ok (.iload_n 0, 1) := by decide +kernel
theorem dX8_isDigit_1 : decode cX8_isDigit 1 = .ok (.bipush 48, 2) := by decide +kernel
theorem dX8_isDigit_3 : decode cX8_isDigit 3 = .ok (.if_icmp .lt 13, 3) := by decide +kernel
theorem dX8_isDigit_6 : decode cX8_isDigit 6 = .ok (.iload_n 0, 1) := by decide +kernel
theorem dX8_isDigit_7 : decode cX8_isDigit 7 = .ok (.bipush 57, 2) := by decide +kernel
theorem dX8_isDigit_9 : decode cX8_isDigit 9 = .ok (.if_icmp .gt 7, 3) := by decide +kernel
theorem dX8_isDigit_12 : decode cX8_isDigit 12 = .ok (.iconst 1, 1) := by decide +kernel
theorem dX8_isDigit_13 : decode cX8_isDigit 13 = .ok (.goto 4, 3) := by decide +kernel
theorem dX8_isDigit_16 : decode cX8_isDigit 16 = .ok (.iconst 0, 1) := by decide +kernel
theorem dX8_isDigit_17 : decode cX8_isDigit 17 = .ok (.ireturn, 1) := by decide +kernel
theorem dX8_reserve_0 : decode cX8_reserve 0 = .ok (.iload_n 0, 1) := by decide +kernel
theorem dX8_reserve_1 : decode cX8_reserve 1 = .ok (.ifCond .ne 32, 3) := by decide +kernel
theorem dX8_reserve_4 : decode cX8_reserve 4 = .ok (.iload_n 2, 1) := by decide +kernel
theorem dX8_reserve_5 : decode cX8_reserve 5 = .ok (.bipush 24, 2) := by decide +kernel
theorem dX8_reserve_7 : decode cX8_reserve 7 = .ok (.if_icmp .gt 7, 3) := by decide +kernel
theorem dX8_reserve_10 : decode cX8_reserve 10 = .ok (.iload_n 1, 1) := by decide +kernel
theorem dX8_reserve_11 : decode cX8_reserve 11 = .ok (.goto 11, 3) := by decide +kernel
theorem dX8_reserve_14 : decode cX8_reserve 14 = .ok (.iload_n 1, 1) := by decide +kernel
theorem dX8_reserve_15 : decode cX8_reserve 15 = .ok (.iconst 2, 1) := by decide +kernel
theorem dX8_reserve_16 : decode cX8_reserve 16 = .ok (.iload_n 2, 1) := by decide +kernel
theorem dX8_reserve_17 : decode cX8_reserve 17 = .ok (.bipush 24, 2) := by decide +kernel
theorem dX8_reserve_19 : decode cX8_reserve 19 = .ok (.isub, 1) := by decide +kernel
theorem dX8_reserve_20 : decode cX8_reserve 20 = .ok (.imul, 1) := by decide +kernel
theorem dX8_reserve_21 : decode cX8_reserve 21 = .ok (.isub, 1) := by decide +kernel
theorem dX8_reserve_22 : decode cX8_reserve 22 = .ok (.istore_n 3, 1) := by decide +kernel
theorem dX8_reserve_23 : decode cX8_reserve 23 = .ok (.iload_n 3, 1) := by decide +kernel
theorem dX8_reserve_24 : decode cX8_reserve 24 = .ok (.ifCond .ge 7, 3) := by decide +kernel
theorem dX8_reserve_27 : decode cX8_reserve 27 = .ok (.iconst 0, 1) := by decide +kernel
theorem dX8_reserve_28 : decode cX8_reserve 28 = .ok (.goto 4, 3) := by decide +kernel
theorem dX8_reserve_31 : decode cX8_reserve 31 = .ok (.iload_n 3, 1) := by decide +kernel
theorem dX8_reserve_32 : decode cX8_reserve 32 = .ok (.ireturn, 1) := by decide +kernel
theorem dX8_reserve_33 : decode cX8_reserve 33 = .ok (.iload_n 0, 1) := by decide +kernel
theorem dX8_reserve_34 : decode cX8_reserve 34 = .ok (.iconst 1, 1) := by decide +kernel
theorem dX8_reserve_35 : decode cX8_reserve 35 = .ok (.if_icmp .ne 22, 3) := by decide +kernel
theorem dX8_reserve_38 : decode cX8_reserve 38 = .ok (.iload_n 1, 1) := by decide +kernel
theorem dX8_reserve_39 : decode cX8_reserve 39 = .ok (.iload_n 1, 1) := by decide +kernel
theorem dX8_reserve_40 : decode cX8_reserve 40 = .ok (.iload_n 2, 1) := by decide +kernel
theorem dX8_reserve_41 : decode cX8_reserve 41 = .ok (.imul, 1) := by decide +kernel
theorem dX8_reserve_42 : decode cX8_reserve 42 = .ok (.bipush 20, 2) := by decide +kernel
theorem dX8_reserve_44 : decode cX8_reserve 44 = .ok (.idiv, 1) := by decide +kernel
theorem dX8_reserve_45 : decode cX8_reserve 45 = .ok (.isub, 1) := by decide +kernel
theorem dX8_reserve_46 : decode cX8_reserve 46 = .ok (.istore_n 3, 1) := by decide +kernel
theorem dX8_reserve_47 : decode cX8_reserve 47 = .ok (.iload_n 3, 1) := by decide +kernel
theorem dX8_reserve_48 : decode cX8_reserve 48 = .ok (.ifCond .ge 7, 3) := by decide +kernel
theorem dX8_reserve_51 : decode cX8_reserve 51 = .ok (.iconst 0, 1) := by decide +kernel
theorem dX8_reserve_52 : decode cX8_reserve 52 = .ok (.goto 4, 3) := by decide +kernel
theorem dX8_reserve_55 : decode cX8_reserve 55 = .ok (.iload_n 3, 1) := by decide +kernel
theorem dX8_reserve_56 : decode cX8_reserve 56 = .ok (.ireturn, 1) := by decide +kernel
theorem dX8_reserve_57 : decode cX8_reserve 57 = .ok (.iload_n 2, 1) := by decide +kernel
theorem dX8_reserve_58 : decode cX8_reserve 58 = .ok (.iconst 4, 1) := by decide +kernel
theorem dX8_reserve_59 : decode cX8_reserve 59 = .ok (.idiv, 1) := by decide +kernel
theorem dX8_reserve_60 : decode cX8_reserve 60 = .ok (.istore_n 3, 1) := by decide +kernel
theorem dX8_reserve_61 : decode cX8_reserve 61 = .ok (.iload_n 3, 1) := by decide +kernel
theorem dX8_reserve_62 : decode cX8_reserve 62 = .ok (.bipush 7, 2) := by decide +kernel
theorem dX8_reserve_64 : decode cX8_reserve 64 = .ok (.if_icmp .le 7, 3) := by decide +kernel
theorem dX8_reserve_67 : decode cX8_reserve 67 = .ok (.iconst 0, 1) := by decide +kernel
theorem dX8_reserve_68 : decode cX8_reserve 68 = .ok (.goto 6, 3) := by decide +kernel
theorem dX8_reserve_71 : decode cX8_reserve 71 = .ok (.iload_n 1, 1) := by decide +kernel
theorem dX8_reserve_72 : decode cX8_reserve 72 = .ok (.iload_n 3, 1) := by decide +kernel
theorem dX8_reserve_73 : decode cX8_reserve 73 = .ok (.ishr, 1) := by decide +kernel
theorem dX8_reserve_74 : decode cX8_reserve 74 = .ok (.ireturn, 1) := by decide +kernel
theorem dX8_copyRow_0 : decode cX8_copyRow 0 = .ok (.aload_n 0, 1) := by decide +kernel
theorem dX8_copyRow_1 : decode cX8_copyRow 1 = .ok (.arraylength, 1) := by decide +kernel
theorem dX8_copyRow_2 : decode cX8_copyRow 2 = .ok (.aload_n 1, 1) := by decide +kernel
theorem dX8_copyRow_3 : decode cX8_copyRow 3 = .ok (.arraylength, 1) := by decide +kernel
theorem dX8_copyRow_4 : decode cX8_copyRow 4 = .ok (.if_icmp .ge 8, 3) := by decide +kernel
theorem dX8_copyRow_7 : decode cX8_copyRow 7 = .ok (.aload_n 0, 1) := by decide +kernel
theorem dX8_copyRow_8 : decode cX8_copyRow 8 = .ok (.arraylength, 1) := by decide +kernel
theorem dX8_copyRow_9 : decode cX8_copyRow 9 = .ok (.goto 5, 3) := by decide +kernel
theorem dX8_copyRow_12 : decode cX8_copyRow 12 = .ok (.aload_n 1, 1) := by decide +kernel
theorem dX8_copyRow_13 : decode cX8_copyRow 13 = .ok (.arraylength, 1) := by decide +kernel
theorem dX8_copyRow_14 : decode cX8_copyRow 14 = .ok (.istore_n 2, 1) := by decide +kernel
theorem dX8_copyRow_15 : decode cX8_copyRow 15 = .ok (.aload_n 0, 1) := by decide +kernel
theorem dX8_copyRow_16 : decode cX8_copyRow 16 = .ok (.iconst 0, 1) := by decide +kernel
theorem dX8_copyRow_17 : decode cX8_copyRow 17 = .ok (.aload_n 1, 1) := by decide +kernel
theorem dX8_copyRow_18 : decode cX8_copyRow 18 = .ok (.iconst 0, 1) := by decide +kernel
theorem dX8_copyRow_19 : decode cX8_copyRow 19 = .ok (.iload_n 2, 1) := by decide +kernel
theorem dX8_copyRow_20 : decode cX8_copyRow 20 = .ok (.invokestatic 373, 3) := by decide +kernel
theorem dX8_copyRow_23 : decode cX8_copyRow 23 = .ok (.return_, 1) := by decide +kernel
theorem dX8_find_0 : decode cX8_find 0 = .ok (.iconst 0, 1) := by decide +kernel
theorem dX8_find_1 : decode cX8_find 1 = .ok (.istore_n 3, 1) := by decide +kernel
theorem dX8_find_2 : decode cX8_find 2 = .ok (.iload_n 3, 1) := by decide +kernel
theorem dX8_find_3 : decode cX8_find 3 = .ok (.iload_n 1, 1) := by decide +kernel
theorem dX8_find_4 : decode cX8_find 4 = .ok (.if_icmp .ge 24, 3) := by decide +kernel
theorem dX8_find_7 : decode cX8_find 7 = .ok (.iload_n 3, 1) := by decide +kernel
theorem dX8_find_8 : decode cX8_find 8 = .ok (.aload_n 0, 1) := by decide +kernel
theorem dX8_find_9 : decode cX8_find 9 = .ok (.arraylength, 1) := by decide +kernel
theorem dX8_find_10 : decode cX8_find 10 = .ok (.if_icmp .ge 18, 3) := by decide +kernel
theorem dX8_find_13 : decode cX8_find 13 = .ok (.aload_n 0, 1) := by decide +kernel
theorem dX8_find_14 : decode cX8_find 14 = .ok (.iload_n 3, 1) := by decide +kernel
theorem dX8_find_15 : decode cX8_find 15 = .ok (.iaload, 1) := by decide +kernel
theorem dX8_find_16 : decode cX8_find 16 = .ok (.iload_n 2, 1) := by decide +kernel
theorem dX8_find_17 : decode cX8_find 17 = .ok (.if_icmp .ne 5, 3) := by decide +kernel
theorem dX8_find_20 : decode cX8_find 20 = .ok (.iload_n 3, 1) := by decide +kernel
theorem dX8_find_21 : decode cX8_find 21 = .ok (.ireturn, 1) := by decide +kernel
theorem dX8_find_22 : decode cX8_find 22 = .ok (.iinc 3 1, 3) := by decide +kernel
theorem dX8_find_25 : decode cX8_find 25 = .ok (.goto (-23), 3) := by decide +kernel
theorem dX8_find_28 : decode cX8_find 28 = .ok (.iconst (-1), 1) := by decide +kernel
theorem dX8_find_29 : decode cX8_find 29 = .ok (.ireturn, 1) := by decide +kernel
theorem dX8_sum_0 : decode cX8_sum 0 = .ok (.iconst 0, 1) := by decide +kernel
theorem dX8_sum_1 : decode cX8_sum 1 = .ok (.istore_n 2, 1) := by decide +kernel
theorem dX8_sum_2 : decode cX8_sum 2 = .ok (.iconst 0, 1) := by decide +kernel
theorem dX8_sum_3 : decode cX8_sum 3 = .ok (.istore_n 3, 1) := by decide +kernel
theorem dX8_sum_4 : decode cX8_sum 4 = .ok (.iload_n 3, 1) := by decide +kernel
theorem dX8_sum_5 : decode cX8_sum 5 = .ok (.iload_n 1, 1) := by decide +kernel
theorem dX8_sum_6 : decode cX8_sum 6 = .ok (.if_icmp .ge 21, 3) := by decide +kernel
theorem dX8_sum_9 : decode cX8_sum 9 = .ok (.iload_n 3, 1) := by decide +kernel
theorem dX8_sum_10 : decode cX8_sum 10 = .ok (.aload_n 0, 1) := by decide +kernel
theorem dX8_sum_11 : decode cX8_sum 11 = .ok (.arraylength, 1) := by decide +kernel
theorem dX8_sum_12 : decode cX8_sum 12 = .ok (.if_icmp .ge 15, 3) := by decide +kernel
theorem dX8_sum_15 : decode cX8_sum 15 = .ok (.iload_n 2, 1) := by decide +kernel
theorem dX8_sum_16 : decode cX8_sum 16 = .ok (.aload_n 0, 1) := by decide +kernel
theorem dX8_sum_17 : decode cX8_sum 17 = .ok (.iload_n 3, 1) := by decide +kernel
theorem dX8_sum_18 : decode cX8_sum 18 = .ok (.iaload, 1) := by decide +kernel
theorem dX8_sum_19 : decode cX8_sum 19 = .ok (.iadd, 1) := by decide +kernel
theorem dX8_sum_20 : decode cX8_sum 20 = .ok (.istore_n 2, 1) := by decide +kernel
theorem dX8_sum_21 : decode cX8_sum 21 = .ok (.iinc 3 1, 3) := by decide +kernel
theorem dX8_sum_24 : decode cX8_sum 24 = .ok (.goto (-20), 3) := by decide +kernel
theorem dX8_sum_27 : decode cX8_sum 27 = .ok (.iload_n 2, 1) := by decide +kernel
theorem dX8_sum_28 : decode cX8_sum 28 = .ok (.ireturn, 1) := by decide +kernel
theorem dX9_init_0 : decode cX9_init 0 = .ok (.aload_n 0, 1) := by decide +kernel
theorem dX9_init_1 : decode cX9_init 1 = .ok (.invokespecial 1, 3) := by decide +kernel
theorem dX9_init_4 : decode cX9_init 4 = .ok (.aload_n 0, 1) := by decide +kernel
theorem dX9_init_5 : decode cX9_init 5 = .ok (.sipush 380, 3) := by decide +kernel
theorem dX9_init_8 : decode cX9_init 8 = .ok (.newarray .int, 2) := by decide +kernel
theorem dX9_init_10 : decode cX9_init 10 = .ok (.putfield 7, 3) := by decide +kernel
theorem dX9_init_13 : decode cX9_init 13 = .ok (.aload_n 0, 1) := by decide +kernel
theorem dX9_init_14 : decode cX9_init 14 = .ok (.sipush 380, 3) := by decide +kernel
theorem dX9_init_17 : decode cX9_init 17 = .ok (.newarray .int, 2) := by decide +kernel
theorem dX9_init_19 : decode cX9_init 19 = .ok (.putfield 13, 3) := by decide +kernel
theorem dX9_init_22 : decode cX9_init 22 = .ok (.aload_n 0, 1) := by decide +kernel
theorem dX9_init_23 : decode cX9_init 23 = .ok (.sipush 380, 3) := by decide +kernel
theorem dX9_init_26 : decode cX9_init 26 = .ok (.newarray .int, 2) := by decide +kernel
theorem dX9_init_28 : decode cX9_init 28 = .ok (.putfield 16, 3) := by decide +kernel
theorem dX9_init_31 : decode cX9_init 31 = .ok (.aload_n 0, 1) := by decide +kernel
theorem dX9_init_32 : decode cX9_init 32 = .ok (.sipush 3040, 3) := by decide +kernel
theorem dX9_init_35 : decode cX9_init 35 = .ok (.newarray .int, 2) := by decide +kernel
theorem dX9_init_37 : decode cX9_init 37 = .ok (.putfield 19, 3) := by decide +kernel
theorem dX9_init_40 : decode cX9_init 40 = .ok (.aload_n 0, 1) := by decide +kernel
theorem dX9_init_41 : decode cX9_init 41 = .ok (.sipush 760, 3) := by decide +kernel
theorem dX9_init_44 : decode cX9_init 44 = .ok (.newarray .int, 2) := by decide +kernel
theorem dX9_init_46 : decode cX9_init 46 = .ok (.putfield 22, 3) := by decide +kernel
theorem dX9_init_49 : decode cX9_init 49 = .ok (.aload_n 0, 1) := by decide +kernel
theorem dX9_init_50 : decode cX9_init 50 = .ok (.iconst 2, 1) := by decide +kernel
theorem dX9_init_51 : decode cX9_init 51 = .ok (.newarray .boolean, 2) := by decide +kernel
theorem dX9_init_53 : decode cX9_init 53 = .ok (.putfield 25, 3) := by decide +kernel
theorem dX9_init_56 : decode cX9_init 56 = .ok (.aload_n 0, 1) := by decide +kernel
theorem dX9_init_57 : decode cX9_init 57 = .ok (.bipush 90, 2) := by decide +kernel
theorem dX9_init_59 : decode cX9_init 59 = .ok (.newarray .int, 2) := by decide +kernel
theorem dX9_init_61 : decode cX9_init 61 = .ok (.putfield 29, 3) := by decide +kernel
theorem dX9_init_64 : decode cX9_init 64 = .ok (.aload_n 0, 1) := by decide +kernel
theorem dX9_init_65 : decode cX9_init 65 = .ok (.bipush 60, 2) := by decide +kernel
theorem dX9_init_67 : decode cX9_init 67 = .ok (.newarray .int, 2) := by decide +kernel
theorem dX9_init_69 : decode cX9_init 69 = .ok (.putfield 32, 3) := by decide +kernel
theorem dX9_init_72 : decode cX9_init 72 = .ok (.aload_n 0, 1) := by decide +kernel
theorem dX9_init_73 : decode cX9_init 73 = .ok (.bipush 60, 2) := by decide +kernel
theorem dX9_init_75 : decode cX9_init 75 = .ok (.newarray .boolean, 2) := by decide +kernel
theorem dX9_init_77 : decode cX9_init 77 = .ok (.putfield 35, 3) := by decide +kernel
theorem dX9_init_80 : decode cX9_init 80 = .ok (.aload_n 0, 1) := by decide +kernel
theorem dX9_init_81 : decode cX9_init 81 = .ok (.sipush 600, 3) := by decide +kernel
theorem dX9_init_84 : decode cX9_init 84 = .ok (.newarray .int, 2) := by decide +kernel
theorem dX9_init_86 : decode cX9_init 86 = .ok (.putfield 38, 3) := by decide +kernel
theorem dX9_init_89 : decode cX9_init 89 = .ok (.aload_n 0, 1) := by decide +kernel
theorem dX9_init_90 : decode cX9_init 90 = .ok (.iconst (-1), 1) := by decide +kernel
theorem dX9_init_91 : decode cX9_init 91 = .ok (.putfield 41, 3) := by decide +kernel
theorem dX9_init_94 : decode cX9_init 94 = .ok (.aload_n 0, 1) := by decide +kernel
theorem dX9_init_95 : decode cX9_init 95 = .ok (.sipush 300, 3) := by decide +kernel
theorem dX9_init_98 : decode cX9_init 98 = .ok (.newarray .byte, 2) := by decide +kernel
theorem dX9_init_100 : decode cX9_init 100 = .ok (.putfield 45, 3) := by decide +kernel
theorem dX9_init_103 : decode cX9_init 103 = .ok (.aload_n 0, 1) := by decide +kernel
theorem dX9_init_104 : decode cX9_init 104 = .ok (.ldc 49, 2) := by decide +kernel
theorem dX9_init_106 : decode cX9_init 106 = .ok (.invokevirtual 51, 3) := by decide +kernel
theorem dX9_init_109 : decode cX9_init 109 = .ok (.aload_n 0, 1) := by decide +kernel
theorem dX9_init_110 : decode cX9_init 110 = .ok (.invokevirtual 55, 3) := by decide +kernel
theorem dX9_init_113 : decode cX9_init 113 = .ok (.aload_n 0, 1) := by decide +kernel
theorem dX9_init_114 : decode cX9_init 114 = .ok (.iconst 0, 1) := by decide +kernel
theorem dX9_init_115 : decode cX9_init 115 = .ok (.putfield 58, 3) := by decide +kernel
theorem dX9_init_118 : decode cX9_init 118 = .ok (.aload_n 0, 1) := by decide +kernel
theorem dX9_init_119 : decode cX9_init 119 = .ok (.getfield 13, 3) := by decide +kernel
theorem dX9_init_122 : decode cX9_init 122 = .ok (.iconst 0, 1) := by decide +kernel
theorem dX9_init_123 : decode cX9_init 123 = .ok (.aload_n 0, 1) := by decide +kernel
theorem dX9_init_124 : decode cX9_init 124 = .ok (.getfield 7, 3) := by decide +kernel
theorem dX9_init_127 : decode cX9_init 127 = .ok (.iconst 0, 1) := by decide +kernel
theorem dX9_init_128 : decode cX9_init 128 = .ok (.invokestatic 61, 3) := by decide +kernel
theorem dX9_init_131 : decode cX9_init 131 = .ok (.return_, 1) := by decide +kernel
theorem dX9_layInput_0 : decode cX9_layInput 0 = .ok (.iconst 0, 1) := by decide +kernel
theorem dX9_layInput_1 : decode cX9_layInput 1 = .ok (.istore_n 2, 1) := by decide +kernel
theorem dX9_layInput_2 : decode cX9_layInput 2 = .ok (.iload_n 2, 1) := by decide +kernel
theorem dX9_layInput_3 : decode cX9_layInput 3 = .ok (.aload_n 1, 1) := by decide +kernel
theorem dX9_layInput_4 : decode cX9_layInput 4 = .ok (.invokevirtual 65, 3) := by decide +kernel
theorem dX9_layInput_7 : decode cX9_layInput 7 = .ok (.if_icmp .ge 20, 3) := by decide +kernel
theorem dX9_layInput_10 : decode cX9_layInput 10 = .ok (.aload_n 0, 1) := by decide +kernel
theorem dX9_layInput_11 : decode cX9_layInput 11 = .ok (.getfield 38, 3) := by decide +kernel
theorem dX9_layInput_14 : decode cX9_layInput 14 = .ok (.iload_n 2, 1) := by decide +kernel
theorem dX9_layInput_15 : decode cX9_layInput 15 = .ok (.aload_n 1, 1) := by decide +kernel
theorem dX9_layInput_16 : decode cX9_layInput 16 = .ok (.iload_n 2, 1) := by decide +kernel
theorem dX9_layInput_17 : decode cX9_layInput 17 = .ok (.invokevirtual 71, 3) := by decide +kernel
theorem dX9_layInput_20 : decode cX9_layInput 20 = .ok (.iastore, 1) := by decide +kernel
theorem dX9_layInput_21 : decode cX9_layInput 21 = .ok (.iinc 2 1, 3) := by decide +kernel
theorem dX9_layInput_24 : decode cX9_layInput 24 = .ok (.goto (-22), 3) := by decide +kernel
theorem dX9_layInput_27 : decode cX9_layInput 27 = .ok (.aload_n 0, 1) := by decide +kernel
theorem dX9_layInput_28 : decode cX9_layInput 28 = .ok (.aload_n 1, 1) := by decide +kernel
theorem dX9_layInput_29 : decode cX9_layInput 29 = .ok (.invokevirtual 65, 3) := by decide +kernel
theorem dX9_layInput_32 : decode cX9_layInput 32 = .ok (.putfield 58, 3) := by decide +kernel
theorem dX9_layInput_35 : decode cX9_layInput 35 = .ok (.return_, 1) := by decide +kernel
theorem dX9_thrown_0 : decode cX9_thrown 0 = .ok (.aload_n 0, 1) := by decide +kernel
theorem dX9_thrown_1 : decode cX9_thrown 1 = .ok (.getfield 75, 3) := by decide +kernel
theorem dX9_thrown_4 : decode cX9_thrown 4 = .ok (.ireturn, 1) := by decide +kernel
theorem dX9_refuses_0 : decode cX9_refuses 0 = .ok (.iload_n 1, 1) := by decide +kernel
theorem dX9_refuses_1 : decode cX9_refuses 1 = .ok (.ifCond .eq 15, 3) := by decide +kernel
theorem dX9_refuses_4 : decode cX9_refuses 4 = .ok (.aload_n 0, 1) := by decide +kernel
theorem dX9_refuses_5 : decode cX9_refuses 5 = .ok (.getfield 75, 3) := by decide +kernel
theorem dX9_refuses_8 : decode cX9_refuses 8 = .ok (.ifCond .ne 8, 3) := by decide +kernel
theorem dX9_refuses_11 : decode cX9_refuses 11 = .ok (.aload_n 0, 1) := by decide +kernel
theorem dX9_refuses_12 : decode cX9_refuses 12 = .ok (.iload_n 2, 1) := by decide +kernel
theorem dX9_refuses_13 : decode cX9_refuses 13 = .ok (.putfield 75, 3) := by decide +kernel
theorem dX9_refuses_16 : decode cX9_refuses 16 = .ok (.aload_n 0, 1) := by decide +kernel
theorem dX9_refuses_17 : decode cX9_refuses 17 = .ok (.getfield 75, 3) := by decide +kernel
theorem dX9_refuses_20 : decode cX9_refuses 20 = .ok (.ifCond .eq 7, 3) := by decide +kernel
theorem dX9_refuses_23 : decode cX9_refuses 23 = .ok (.iconst 1, 1) := by decide +kernel
theorem dX9_refuses_24 : decode cX9_refuses 24 = .ok (.goto 4, 3) := by decide +kernel
theorem dX9_refuses_27 : decode cX9_refuses 27 = .ok (.iconst 0, 1) := by decide +kernel
theorem dX9_refuses_28 : decode cX9_refuses 28 = .ok (.ireturn, 1) := by decide +kernel
theorem dX9_isBetween_0 : decode cX9_isBetween 0 = .ok (.iload_n 0, 1) := by decide +kernel
theorem dX9_isBetween_1 : decode cX9_isBetween 1 = .ok (.iload_n 1, 1) := by decide +kernel
theorem dX9_isBetween_2 : decode cX9_isBetween 2 = .ok (.if_icmp .lt 12, 3) := by decide +kernel
theorem dX9_isBetween_5 : decode cX9_isBetween 5 = .ok (.iload_n 0, 1) := by decide +kernel
theorem dX9_isBetween_6 : decode cX9_isBetween 6 = .ok (.iload_n 2, 1) := by decide +kernel
theorem dX9_isBetween_7 : decode cX9_isBetween 7 = .ok (.if_icmp .gt 7, 3) := by decide +kernel
theorem dX9_isBetween_10 : decode cX9_isBetween 10 = .ok (.iconst 1, 1) := by decide +kernel
theorem dX9_isBetween_11 : decode cX9_isBetween 11 = .ok (.goto 4, 3) := by decide +kernel
theorem dX9_isBetween_14 : decode cX9_isBetween 14 = .ok (.iconst 0, 1) := by decide +kernel
theorem dX9_isBetween_15 : decode cX9_isBetween 15 = .ok (.ireturn, 1) := by decide +kernel
theorem dX9_copyRow_0 : decode cX9_copyRow 0 = .ok (.iconst 0, 1) := by decide +kernel
theorem dX9_copyRow_1 : decode cX9_copyRow 1 = .ok (.istore 4, 2) := by decide +kernel
theorem dX9_copyRow_3 : decode cX9_copyRow 3 = .ok (.iload 4, 2) := by decide +kernel
theorem dX9_copyRow_5 : decode cX9_copyRow 5 = .ok (.sipush 380, 3) := by decide +kernel
theorem dX9_copyRow_8 : decode cX9_copyRow 8 = .ok (.if_icmp .ge 21, 3) := by decide +kernel
theorem dX9_copyRow_11 : decode cX9_copyRow 11 = .ok (.aload_n 2, 1) := by decide +kernel
theorem dX9_copyRow_12 : decode cX9_copyRow 12 = .ok (.iload_n 3, 1) := by decide +kernel
theorem dX9_copyRow_13 : decode cX9_copyRow 13 = .ok (.iload 4, 2) := by decide +kernel
theorem dX9_copyRow_15 : decode cX9_copyRow 15 = .ok (.iadd, 1) := by decide +kernel
theorem dX9_copyRow_16 : decode cX9_copyRow 16 = .ok (.aload_n 0, 1) := by decide +kernel
theorem dX9_copyRow_17 : decode cX9_copyRow 17 = .ok (.iload_n 1, 1) := by decide +kernel
theorem dX9_copyRow_18 : decode cX9_copyRow 18 = .ok (.iload 4, 2) := by decide +kernel
theorem dX9_copyRow_20 : decode cX9_copyRow 20 = .ok (.iadd, 1) := by decide +kernel
theorem dX9_copyRow_21 : decode cX9_copyRow 21 = .ok (.iaload, 1) := by decide +kernel
theorem dX9_copyRow_22 : decode cX9_copyRow 22 = .ok (.iastore, 1) := by decide +kernel
theorem dX9_copyRow_23 : decode cX9_copyRow 23 = .ok (.iinc 4 1, 3) := by decide +kernel
theorem dX9_copyRow_26 : decode cX9_copyRow 26 = .ok (.goto (-23), 3) := by decide +kernel
theorem dX9_copyRow_29 : decode cX9_copyRow 29 = .ok (.return_, 1) := by decide +kernel
theorem dX9_ofBaker_0 : decode cX9_ofBaker 0 = .ok (.bipush 16, 2) := by decide +kernel
theorem dX9_ofBaker_2 : decode cX9_ofBaker 2 = .ok (.bipush 6, 2) := by decide +kernel
theorem dX9_ofBaker_4 : decode cX9_ofBaker 4 = .ok (.iload_n 0, 1) := by decide +kernel
theorem dX9_ofBaker_5 : decode cX9_ofBaker 5 = .ok (.imul, 1) := by decide +kernel
theorem dX9_ofBaker_6 : decode cX9_ofBaker 6 = .ok (.iadd, 1) := by decide +kernel
theorem dX9_ofBaker_7 : decode cX9_ofBaker 7 = .ok (.ireturn, 1) := by decide +kernel
theorem dX9_ofCustomer_0 : decode cX9_ofCustomer 0 = .ok (.bipush 40, 2) := by decide +kernel
theorem dX9_ofCustomer_2 : decode cX9_ofCustomer 2 = .ok (.bipush 7, 2) := by decide +kernel
theorem dX9_ofCustomer_4 : decode cX9_ofCustomer 4 = .ok (.iload_n 0, 1) := by decide +kernel
theorem dX9_ofCustomer_5 : decode cX9_ofCustomer 5 = .ok (.imul, 1) := by decide +kernel
theorem dX9_ofCustomer_6 : decode cX9_ofCustomer 6 = .ok (.iadd, 1) := by decide +kernel
theorem dX9_ofCustomer_7 : decode cX9_ofCustomer 7 = .ok (.ireturn, 1) := by decide +kernel
theorem dX9_ofLoaf_0 : decode cX9_ofLoaf 0 = .ok (.bipush 110, 2) := by decide +kernel
theorem dX9_ofLoaf_2 : decode cX9_ofLoaf 2 = .ok (.iconst 3, 1) := by decide +kernel
theorem dX9_ofLoaf_3 : decode cX9_ofLoaf 3 = .ok (.iload_n 0, 1) := by decide +kernel
theorem dX9_ofLoaf_4 : decode cX9_ofLoaf 4 = .ok (.imul, 1) := by decide +kernel
theorem dX9_ofLoaf_5 : decode cX9_ofLoaf 5 = .ok (.iadd, 1) := by decide +kernel
theorem dX9_ofLoaf_6 : decode cX9_ofLoaf 6 = .ok (.ireturn, 1) := by decide +kernel
theorem dX9_ofEvent_0 : decode cX9_ofEvent 0 = .ok (.sipush 290, 3) := by decide +kernel
theorem dX9_ofEvent_3 : decode cX9_ofEvent 3 = .ok (.iconst 3, 1) := by decide +kernel
theorem dX9_ofEvent_4 : decode cX9_ofEvent 4 = .ok (.iload_n 0, 1) := by decide +kernel
theorem dX9_ofEvent_5 : decode cX9_ofEvent 5 = .ok (.imul, 1) := by decide +kernel
theorem dX9_ofEvent_6 : decode cX9_ofEvent 6 = .ok (.iadd, 1) := by decide +kernel
theorem dX9_ofEvent_7 : decode cX9_ofEvent 7 = .ok (.ireturn, 1) := by decide +kernel
theorem dX9_takeOut_0 : decode cX9_takeOut 0 = .ok (.aload_n 0, 1) := by decide +kernel
theorem dX9_takeOut_1 : decode cX9_takeOut 1 = .ok (.iload_n 1, 1) := by decide +kernel
theorem dX9_takeOut_2 : decode cX9_takeOut 2 = .ok (.dup2, 1) := by decide +kernel
theorem dX9_takeOut_3 : decode cX9_takeOut 3 = .ok (.iaload, 1) := by decide +kernel
theorem dX9_takeOut_4 : decode cX9_takeOut 4 = .ok (.iconst 1, 1) := by decide +kernel
theorem dX9_takeOut_5 : decode cX9_takeOut 5 = .ok (.isub, 1) := by decide +kernel
theorem dX9_takeOut_6 : decode cX9_takeOut 6 = .ok (.iastore, 1) := by decide +kernel
theorem dX9_takeOut_7 : decode cX9_takeOut 7 = .ok (.iload_n 2, 1) := by decide +kernel
theorem dX9_takeOut_8 : decode cX9_takeOut 8 = .ok (.iload_n 3, 1) := by decide +kernel
theorem dX9_takeOut_9 : decode cX9_takeOut 9 = .ok (.iload 4, 2) := by decide +kernel
theorem dX9_takeOut_11 : decode cX9_takeOut 11 = .ok (.imul, 1) := by decide +kernel
theorem dX9_takeOut_12 : decode cX9_takeOut 12 = .ok (.iadd, 1) := by decide +kernel
theorem dX9_takeOut_13 : decode cX9_takeOut 13 = .ok (.istore 5, 2) := by decide +kernel
theorem dX9_takeOut_15 : decode cX9_takeOut 15 = .ok (.iload 5, 2) := by decide +kernel
theorem dX9_takeOut_17 : decode cX9_takeOut 17 = .ok (.iload_n 2, 1) := by decide +kernel
theorem dX9_takeOut_18 : decode cX9_takeOut 18 = .ok (.iload_n 3, 1) := by decide +kernel
theorem dX9_takeOut_19 : decode cX9_takeOut 19 = .ok (.aload_n 0, 1) := by decide +kernel
theorem dX9_takeOut_20 : decode cX9_takeOut 20 = .ok (.iload_n 1, 1) := by decide +kernel
theorem dX9_takeOut_21 : decode cX9_takeOut 21 = .ok (.iaload, 1) := by decide +kernel
theorem dX9_takeOut_22 : decode cX9_takeOut 22 = .ok (.imul, 1) := by decide +kernel
theorem dX9_takeOut_23 : decode cX9_takeOut 23 = .ok (.iadd, 1) := by decide +kernel
theorem dX9_takeOut_24 : decode cX9_takeOut 24 = .ok (.if_icmp .ge 19, 3) := by decide +kernel
theorem dX9_takeOut_27 : decode cX9_takeOut 27 = .ok (.aload_n 0, 1) := by decide +kernel
theorem dX9_takeOut_28 : decode cX9_takeOut 28 = .ok (.iload 5, 2) := by decide +kernel
theorem dX9_takeOut_30 : decode cX9_takeOut 30 = .ok (.aload_n 0, 1) := by decide +kernel
theorem dX9_takeOut_31 : decode cX9_takeOut 31 = .ok (.iload 5, 2) := by decide +kernel
theorem dX9_takeOut_33 : decode cX9_takeOut 33 = .ok (.iload_n 3, 1) := by decide +kernel
theorem dX9_takeOut_34 : decode cX9_takeOut 34 = .ok (.iadd, 1) := by decide +kernel
theorem dX9_takeOut_35 : decode cX9_takeOut 35 = .ok (.iaload, 1) := by decide +kernel
theorem dX9_takeOut_36 : decode cX9_takeOut 36 = .ok (.iastore, 1) := by decide +kernel
theorem dX9_takeOut_37 : decode cX9_takeOut 37 = .ok (.iinc 5 1, 3) := by decide +kernel
theorem dX9_takeOut_40 : decode cX9_takeOut 40 = .ok (.goto (-25), 3) := by decide +kernel
theorem dX9_takeOut_43 : decode cX9_takeOut 43 = .ok (.return_, 1) := by decide +kernel
theorem dX9_tell_0 : decode cX9_tell 0 = .ok (.aload_n 0, 1) := by decide +kernel
theorem dX9_tell_1 : decode cX9_tell 1 = .ok (.bipush 7, 2) := by decide +kernel
theorem dX9_tell_3 : decode cX9_tell 3 = .ok (.iaload, 1) := by decide +kernel
theorem dX9_tell_4 : decode cX9_tell 4 = .ok (.bipush 30, 2) := by decide +kernel
theorem dX9_tell_6 : decode cX9_tell 6 = .ok (.if_icmp .ne 14, 3) := by decide +kernel
theorem dX9_tell_9 : decode cX9_tell 9 = .ok (.aload_n 0, 1) := by decide +kernel
theorem dX9_tell_10 : decode cX9_tell 10 = .ok (.bipush 7, 2) := by decide +kernel
theorem dX9_tell_12 : decode cX9_tell 12 = .ok (.sipush 290, 3) := by decide +kernel
theorem dX9_tell_15 : decode cX9_tell 15 = .ok (.iconst 3, 1) := by decide +kernel
theorem dX9_tell_16 : decode cX9_tell 16 = .ok (.iconst 0, 1) := by decide +kernel
theorem dX9_tell_17 : decode cX9_tell 17 = .ok (.invokestatic 78, 3) := by decide +kernel
theorem dX9_tell_20 : decode cX9_tell 20 = .ok (.aload_n 0, 1) := by decide +kernel
theorem dX9_tell_21 : decode cX9_tell 21 = .ok (.bipush 7, 2) := by decide +kernel
theorem dX9_tell_23 : decode cX9_tell 23 = .ok (.iaload, 1) := by decide +kernel
theorem dX9_tell_24 : decode cX9_tell 24 = .ok (.invokestatic 82, 3) := by decide +kernel
theorem dX9_tell_27 : decode cX9_tell 27 = .ok (.istore 4, 2) := by decide +kernel
theorem dX9_tell_29 : decode cX9_tell 29 = .ok (.aload_n 0, 1) := by decide +kernel
theorem dX9_tell_30 : decode cX9_tell 30 = .ok (.iload 4, 2) := by decide +kernel
theorem dX9_tell_32 : decode cX9_tell 32 = .ok (.iconst 0, 1) := by decide +kernel
theorem dX9_tell_33 : decode cX9_tell 33 = .ok (.iadd, 1) := by decide +kernel
theorem dX9_tell_34 : decode cX9_tell 34 = .ok (.iload_n 1, 1) := by decide +kernel
theorem dX9_tell_35 : decode cX9_tell 35 = .ok (.iastore, 1) := by decide +kernel
theorem dX9_tell_36 : decode cX9_tell 36 = .ok (.aload_n 0, 1) := by decide +kernel
theorem dX9_tell_37 : decode cX9_tell 37 = .ok (.iload 4, 2) := by decide +kernel
theorem dX9_tell_39 : decode cX9_tell 39 = .ok (.iconst 1, 1) := by decide +kernel
theorem dX9_tell_40 : decode cX9_tell 40 = .ok (.iadd, 1) := by decide +kernel
theorem dX9_tell_41 : decode cX9_tell 41 = .ok (.iload_n 2, 1) := by decide +kernel
theorem dX9_tell_42 : decode cX9_tell 42 = .ok (.iastore, 1) := by decide +kernel
theorem dX9_tell_43 : decode cX9_tell 43 = .ok (.aload_n 0, 1) := by decide +kernel
theorem dX9_tell_44 : decode cX9_tell 44 = .ok (.iload 4, 2) := by decide +kernel
theorem dX9_tell_46 : decode cX9_tell 46 = .ok (.iconst 2, 1) := by decide +kernel
theorem dX9_tell_47 : decode cX9_tell 47 = .ok (.iadd, 1) := by decide +kernel
theorem dX9_tell_48 : decode cX9_tell 48 = .ok (.iload_n 3, 1) := by decide +kernel
theorem dX9_tell_49 : decode cX9_tell 49 = .ok (.iastore, 1) := by decide +kernel
theorem dX9_tell_50 : decode cX9_tell 50 = .ok (.aload_n 0, 1) := by decide +kernel
theorem dX9_tell_51 : decode cX9_tell 51 = .ok (.bipush 7, 2) := by decide +kernel
theorem dX9_tell_53 : decode cX9_tell 53 = .ok (.dup2, 1) := by decide +kernel
theorem dX9_tell_54 : decode cX9_tell 54 = .ok (.iaload, 1) := by decide +kernel
theorem dX9_tell_55 : decode cX9_tell 55 = .ok (.iconst 1, 1) := by decide +kernel
theorem dX9_tell_56 : decode cX9_tell 56 = .ok (.iadd, 1) := by decide +kernel
theorem dX9_tell_57 : decode cX9_tell 57 = .ok (.iastore, 1) := by decide +kernel
theorem dX9_tell_58 : decode cX9_tell 58 = .ok (.return_, 1) := by decide +kernel
theorem dX9_positive_0 : decode cX9_positive 0 = .ok (.iload_n 0, 1) := by decide +kernel
theorem dX9_positive_1 : decode cX9_positive 1 = .ok (.ifCond .ge 7, 3) := by decide +kernel
theorem dX9_positive_4 : decode cX9_positive 4 = .ok (.iconst 0, 1) := by decide +kernel
theorem dX9_positive_5 : decode cX9_positive 5 = .ok (.goto 4, 3) := by decide +kernel
theorem dX9_positive_8 : decode cX9_positive 8 = .ok (.iload_n 0, 1) := by decide +kernel
theorem dX9_positive_9 : decode cX9_positive 9 = .ok (.ireturn, 1) := by decide +kernel
theorem dX9_reserveOf_0 : decode cX9_reserveOf 0 = .ok (.aload_n 0, 1) := by decide +kernel
theorem dX9_reserveOf_1 : decode cX9_reserveOf 1 = .ok (.bipush 13, 2) := by decide +kernel
theorem dX9_reserveOf_3 : decode cX9_reserveOf 3 = .ok (.iload_n 1, 1) := by decide +kernel
theorem dX9_reserveOf_4 : decode cX9_reserveOf 4 = .ok (.iadd, 1) := by decide +kernel
theorem dX9_reserveOf_5 : decode cX9_reserveOf 5 = .ok (.iaload, 1) := by decide +kernel
theorem dX9_reserveOf_6 : decode cX9_reserveOf 6 = .ok (.istore_n 3, 1) := by decide +kernel
theorem dX9_reserveOf_7 : decode cX9_reserveOf 7 = .ok (.iload_n 1, 1) := by decide +kernel
theorem dX9_reserveOf_8 : decode cX9_reserveOf 8 = .ok (.ifCond .ne 25, 3) := by decide +kernel
theorem dX9_reserveOf_11 : decode cX9_reserveOf 11 = .ok (.iload_n 2, 1) := by decide +kernel
theorem dX9_reserveOf_12 : decode cX9_reserveOf 12 = .ok (.bipush 24, 2) := by decide +kernel
theorem dX9_reserveOf_14 : decode cX9_reserveOf 14 = .ok (.if_icmp .gt 7, 3) := by decide +kernel
theorem dX9_reserveOf_17 : decode cX9_reserveOf 17 = .ok (.iload_n 3, 1) := by decide +kernel
theorem dX9_reserveOf_18 : decode cX9_reserveOf 18 = .ok (.goto 14, 3) := by decide +kernel
theorem dX9_reserveOf_21 : decode cX9_reserveOf 21 = .ok (.iload_n 3, 1) := by decide +kernel
theorem dX9_reserveOf_22 : decode cX9_reserveOf 22 = .ok (.iconst 2, 1) := by decide +kernel
theorem dX9_reserveOf_23 : decode cX9_reserveOf 23 = .ok (.iload_n 2, 1) := by decide +kernel
theorem dX9_reserveOf_24 : decode cX9_reserveOf 24 = .ok (.bipush 24, 2) := by decide +kernel
theorem dX9_reserveOf_26 : decode cX9_reserveOf 26 = .ok (.isub, 1) := by decide +kernel
theorem dX9_reserveOf_27 : decode cX9_reserveOf 27 = .ok (.imul, 1) := by decide +kernel
theorem dX9_reserveOf_28 : decode cX9_reserveOf 28 = .ok (.isub, 1) := by decide +kernel
theorem dX9_reserveOf_29 : decode cX9_reserveOf 29 = .ok (.invokestatic 86, 3) := by decide +kernel
theorem dX9_reserveOf_32 : decode cX9_reserveOf 32 = .ok (.ireturn, 1) := by decide +kernel
theorem dX9_reserveOf_33 : decode cX9_reserveOf 33 = .ok (.iload_n 1, 1) := by decide +kernel
theorem dX9_reserveOf_34 : decode cX9_reserveOf 34 = .ok (.iconst 1, 1) := by decide +kernel
theorem dX9_reserveOf_35 : decode cX9_reserveOf 35 = .ok (.if_icmp .ne 15, 3) := by decide +kernel
theorem dX9_reserveOf_38 : decode cX9_reserveOf 38 = .ok (.iload_n 3, 1) := by decide +kernel
theorem dX9_reserveOf_39 : decode cX9_reserveOf 39 = .ok (.iload_n 3, 1) := by decide +kernel
theorem dX9_reserveOf_40 : decode cX9_reserveOf 40 = .ok (.iload_n 2, 1) := by decide +kernel
theorem dX9_reserveOf_41 : decode cX9_reserveOf 41 = .ok (.imul, 1) := by decide +kernel
theorem dX9_reserveOf_42 : decode cX9_reserveOf 42 = .ok (.bipush 20, 2) := by decide +kernel
theorem dX9_reserveOf_44 : decode cX9_reserveOf 44 = .ok (.idiv, 1) := by decide +kernel
theorem dX9_reserveOf_45 : decode cX9_reserveOf 45 = .ok (.isub, 1) := by decide +kernel
theorem dX9_reserveOf_46 : decode cX9_reserveOf 46 = .ok (.invokestatic 86, 3) := by decide +kernel
theorem dX9_reserveOf_49 : decode cX9_reserveOf 49 = .ok (.ireturn, 1) := by decide +kernel
theorem dX9_reserveOf_50 : decode cX9_reserveOf 50 = .ok (.iload_n 3, 1) := by decide +kernel
theorem dX9_reserveOf_51 : decode cX9_reserveOf 51 = .ok (.istore 4, 2) := by decide +kernel
theorem dX9_reserveOf_53 : decode cX9_reserveOf 53 = .ok (.iconst 0, 1) := by decide +kernel
theorem dX9_reserveOf_54 : decode cX9_reserveOf 54 = .ok (.istore 5, 2) := by decide +kernel
theorem dX9_reserveOf_56 : decode cX9_reserveOf 56 = .ok (.iload 5, 2) := by decide +kernel
theorem dX9_reserveOf_58 : decode cX9_reserveOf 58 = .ok (.iload_n 2, 1) := by decide +kernel
theorem dX9_reserveOf_59 : decode cX9_reserveOf 59 = .ok (.iconst 4, 1) := by decide +kernel
theorem dX9_reserveOf_60 : decode cX9_reserveOf 60 = .ok (.idiv, 1) := by decide +kernel
theorem dX9_reserveOf_61 : decode cX9_reserveOf 61 = .ok (.if_icmp .ge 20, 3) := by decide +kernel
theorem dX9_reserveOf_64 : decode cX9_reserveOf 64 = .ok (.iload 4, 2) := by decide +kernel
theorem dX9_reserveOf_66 : decode cX9_reserveOf 66 = .ok (.ifCond .le 15, 3) := by decide +kernel
theorem dX9_reserveOf_69 : decode cX9_reserveOf 69 = .ok (.iload 4, 2) := by decide +kernel
theorem dX9_reserveOf_71 : decode cX9_reserveOf 71 = .ok (.iconst 2, 1) := by decide +kernel
theorem dX9_reserveOf_72 : decode cX9_reserveOf 72 = .ok (.idiv, 1) := by decide +kernel
theorem dX9_reserveOf_73 : decode cX9_reserveOf 73 = .ok (.istore 4, 2) := by decide +kernel
theorem dX9_reserveOf_75 : decode cX9_reserveOf 75 = .ok (.iinc 5 1, 3) := by decide +kernel
theorem dX9_reserveOf_78 : decode cX9_reserveOf 78 = .ok (.goto (-22), 3) := by decide +kernel
theorem dX9_reserveOf_81 : decode cX9_reserveOf 81 = .ok (.iload 4, 2) := by decide +kernel
theorem dX9_reserveOf_83 : decode cX9_reserveOf 83 = .ok (.ireturn, 1) := by decide +kernel
theorem dX9_ageOf_0 : decode cX9_ageOf 0 = .ok (.aload_n 0, 1) := by decide +kernel
theorem dX9_ageOf_1 : decode cX9_ageOf 1 = .ok (.iconst 0, 1) := by decide +kernel
theorem dX9_ageOf_2 : decode cX9_ageOf 2 = .ok (.iaload, 1) := by decide +kernel
theorem dX9_ageOf_3 : decode cX9_ageOf 3 = .ok (.aload_n 0, 1) := by decide +kernel
theorem dX9_ageOf_4 : decode cX9_ageOf 4 = .ok (.iload_n 1, 1) := by decide +kernel
theorem dX9_ageOf_5 : decode cX9_ageOf 5 = .ok (.invokestatic 89, 3) := by decide +kernel
theorem dX9_ageOf_8 : decode cX9_ageOf 8 = .ok (.iconst 2, 1) := by decide +kernel
theorem dX9_ageOf_9 : decode cX9_ageOf 9 = .ok (.iadd, 1) := by decide +kernel
theorem dX9_ageOf_10 : decode cX9_ageOf 10 = .ok (.iaload, 1) := by decide +kernel
theorem dX9_ageOf_11 : decode cX9_ageOf 11 = .ok (.isub, 1) := by decide +kernel
theorem dX9_ageOf_12 : decode cX9_ageOf 12 = .ok (.ireturn, 1) := by decide +kernel
theorem dX9_reserve_0 : decode cX9_reserve 0 = .ok (.aload_n 0, 1) := by decide +kernel
theorem dX9_reserve_1 : decode cX9_reserve 1 = .ok (.aload_n 0, 1) := by decide +kernel
theorem dX9_reserve_2 : decode cX9_reserve 2 = .ok (.iload_n 1, 1) := by decide +kernel
theorem dX9_reserve_3 : decode cX9_reserve 3 = .ok (.invokestatic 89, 3) := by decide +kernel
theorem dX9_reserve_6 : decode cX9_reserve 6 = .ok (.iconst 0, 1) := by decide +kernel
theorem dX9_reserve_7 : decode cX9_reserve 7 = .ok (.iadd, 1) := by decide +kernel
theorem dX9_reserve_8 : decode cX9_reserve 8 = .ok (.iaload, 1) := by decide +kernel
theorem dX9_reserve_9 : decode cX9_reserve 9 = .ok (.aload_n 0, 1) := by decide +kernel
theorem dX9_reserve_10 : decode cX9_reserve 10 = .ok (.iload_n 1, 1) := by decide +kernel
theorem dX9_reserve_11 : decode cX9_reserve 11 = .ok (.invokestatic 92, 3) := by decide +kernel
theorem dX9_reserve_14 : decode cX9_reserve 14 = .ok (.invokestatic 96, 3) := by decide +kernel
theorem dX9_reserve_17 : decode cX9_reserve 17 = .ok (.ireturn, 1) := by decide +kernel
theorem dX9_inOvens_0 : decode cX9_inOvens 0 = .ok (.iconst 0, 1) := by decide +kernel
theorem dX9_inOvens_1 : decode cX9_inOvens 1 = .ok (.istore_n 1, 1) := by decide +kernel
theorem dX9_inOvens_2 : decode cX9_inOvens 2 = .ok (.iconst 0, 1) := by decide +kernel
theorem dX9_inOvens_3 : decode cX9_inOvens 3 = .ok (.istore_n 2, 1) := by decide +kernel
theorem dX9_inOvens_4 : decode cX9_inOvens 4 = .ok (.iload_n 2, 1) := by decide +kernel
theorem dX9_inOvens_5 : decode cX9_inOvens 5 = .ok (.aload_n 0, 1) := by decide +kernel
theorem dX9_inOvens_6 : decode cX9_inOvens 6 = .ok (.iconst 1, 1) := by decide +kernel
theorem dX9_inOvens_7 : decode cX9_inOvens 7 = .ok (.iaload, 1) := by decide +kernel
theorem dX9_inOvens_8 : decode cX9_inOvens 8 = .ok (.if_icmp .ge 35, 3) := by decide +kernel
theorem dX9_inOvens_11 : decode cX9_inOvens 11 = .ok (.iload_n 1, 1) := by decide +kernel
theorem dX9_inOvens_12 : decode cX9_inOvens 12 = .ok (.aload_n 0, 1) := by decide +kernel
theorem dX9_inOvens_13 : decode cX9_inOvens 13 = .ok (.iload_n 2, 1) := by decide +kernel
theorem dX9_inOvens_14 : decode cX9_inOvens 14 = .ok (.invokestatic 100, 3) := by decide +kernel
theorem dX9_inOvens_17 : decode cX9_inOvens 17 = .ok (.iconst 4, 1) := by decide +kernel
theorem dX9_inOvens_18 : decode cX9_inOvens 18 = .ok (.iadd, 1) := by decide +kernel
theorem dX9_inOvens_19 : decode cX9_inOvens 19 = .ok (.iaload, 1) := by decide +kernel
theorem dX9_inOvens_20 : decode cX9_inOvens 20 = .ok (.ifCond .le 14, 3) := by decide +kernel
theorem dX9_inOvens_23 : decode cX9_inOvens 23 = .ok (.aload_n 0, 1) := by decide +kernel
theorem dX9_inOvens_24 : decode cX9_inOvens 24 = .ok (.iload_n 2, 1) := by decide +kernel
theorem dX9_inOvens_25 : decode cX9_inOvens 25 = .ok (.invokestatic 100, 3) := by decide +kernel
theorem dX9_inOvens_28 : decode cX9_inOvens 28 = .ok (.iconst 1, 1) := by decide +kernel
theorem dX9_inOvens_29 : decode cX9_inOvens 29 = .ok (.iadd, 1) := by decide +kernel
theorem dX9_inOvens_30 : decode cX9_inOvens 30 = .ok (.iaload, 1) := by decide +kernel
theorem dX9_inOvens_31 : decode cX9_inOvens 31 = .ok (.goto 4, 3) := by decide +kernel
theorem dX9_inOvens_34 : decode cX9_inOvens 34 = .ok (.iconst 0, 1) := by decide +kernel
theorem dX9_inOvens_35 : decode cX9_inOvens 35 = .ok (.iadd, 1) := by decide +kernel
theorem dX9_inOvens_36 : decode cX9_inOvens 36 = .ok (.istore_n 1, 1) := by decide +kernel
theorem dX9_inOvens_37 : decode cX9_inOvens 37 = .ok (.iinc 2 1, 3) := by decide +kernel
theorem dX9_inOvens_40 : decode cX9_inOvens 40 = .ok (.goto (-36), 3) := by decide +kernel
theorem dX9_inOvens_43 : decode cX9_inOvens 43 = .ok (.iload_n 1, 1) := by decide +kernel
theorem dX9_inOvens_44 : decode cX9_inOvens 44 = .ok (.ireturn, 1) := by decide +kernel
theorem dX9_whyNotBake_0 : decode cX9_whyNotBake 0 = .ok (.aload_n 0, 1) := by decide +kernel
theorem dX9_whyNotBake_1 : decode cX9_whyNotBake 1 = .ok (.iload_n 1, 1) := by decide +kernel
theorem dX9_whyNotBake_2 : decode cX9_whyNotBake 2 = .ok (.invokestatic 100, 3) := by decide +kernel
theorem dX9_whyNotBake_5 : decode cX9_whyNotBake 5 = .ok (.iconst 4, 1) := by decide +kernel
theorem dX9_whyNotBake_6 : decode cX9_whyNotBake 6 = .ok (.iadd, 1) := by decide +kernel
theorem dX9_whyNotBake_7 : decode cX9_whyNotBake 7 = .ok (.iaload, 1) := by decide +kernel
theorem dX9_whyNotBake_8 : decode cX9_whyNotBake 8 = .ok (.ifCond .le 5, 3) := by decide +kernel
theorem dX9_whyNotBake_11 : decode cX9_whyNotBake 11 = .ok (.iconst 1, 1) := by decide +kernel
theorem dX9_whyNotBake_12 : decode cX9_whyNotBake 12 = .ok (.ireturn, 1) := by decide +kernel
theorem dX9_whyNotBake_13 : decode cX9_whyNotBake 13 = .ok (.aload_n 0, 1) := by decide +kernel
theorem dX9_whyNotBake_14 : decode cX9_whyNotBake 14 = .ok (.iconst 3, 1) := by decide +kernel
theorem dX9_whyNotBake_15 : decode cX9_whyNotBake 15 = .ok (.iaload, 1) := by decide +kernel
theorem dX9_whyNotBake_16 : decode cX9_whyNotBake 16 = .ok (.aload_n 0, 1) := by decide +kernel
theorem dX9_whyNotBake_17 : decode cX9_whyNotBake 17 = .ok (.invokestatic 103, 3) := by decide +kernel
theorem dX9_whyNotBake_20 : decode cX9_whyNotBake 20 = .ok (.iadd, 1) := by decide +kernel
theorem dX9_whyNotBake_21 : decode cX9_whyNotBake 21 = .ok (.aload_n 0, 1) := by decide +kernel
theorem dX9_whyNotBake_22 : decode cX9_whyNotBake 22 = .ok (.iload_n 1, 1) := by decide +kernel
theorem dX9_whyNotBake_23 : decode cX9_whyNotBake 23 = .ok (.invokestatic 100, 3) := by decide +kernel
theorem dX9_whyNotBake_26 : decode cX9_whyNotBake 26 = .ok (.iconst 1, 1) := by decide +kernel
theorem dX9_whyNotBake_27 : decode cX9_whyNotBake 27 = .ok (.iadd, 1) := by decide +kernel
theorem dX9_whyNotBake_28 : decode cX9_whyNotBake 28 = .ok (.iaload, 1) := by decide +kernel
theorem dX9_whyNotBake_29 : decode cX9_whyNotBake 29 = .ok (.iadd, 1) := by decide +kernel
theorem dX9_whyNotBake_30 : decode cX9_whyNotBake 30 = .ok (.bipush 60, 2) := by decide +kernel
theorem dX9_whyNotBake_32 : decode cX9_whyNotBake 32 = .ok (.if_icmp .le 7, 3) := by decide +kernel
theorem dX9_whyNotBake_35 : decode cX9_whyNotBake 35 = .ok (.iconst 2, 1) := by decide +kernel
theorem dX9_whyNotBake_36 : decode cX9_whyNotBake 36 = .ok (.goto 4, 3) := by decide +kernel
theorem dX9_whyNotBake_39 : decode cX9_whyNotBake 39 = .ok (.iconst 0, 1) := by decide +kernel
theorem dX9_whyNotBake_40 : decode cX9_whyNotBake 40 = .ok (.ireturn, 1) := by decide +kernel
theorem dX9_fire_0 : decode cX9_fire 0 = .ok (.iload_n 1, 1) := by decide +kernel
theorem dX9_fire_1 : decode cX9_fire 1 = .ok (.invokestatic 100, 3) := by decide +kernel
theorem dX9_fire_4 : decode cX9_fire 4 = .ok (.istore_n 3, 1) := by decide +kernel
theorem dX9_fire_5 : decode cX9_fire 5 = .ok (.aload_n 0, 1) := by decide +kernel
theorem dX9_fire_6 : decode cX9_fire 6 = .ok (.iload_n 3, 1) := by decide +kernel
theorem dX9_fire_7 : decode cX9_fire 7 = .ok (.iconst 3, 1) := by decide +kernel
theorem dX9_fire_8 : decode cX9_fire 8 = .ok (.iadd, 1) := by decide +kernel
theorem dX9_fire_9 : decode cX9_fire 9 = .ok (.iload_n 2, 1) := by decide +kernel
theorem dX9_fire_10 : decode cX9_fire 10 = .ok (.iastore, 1) := by decide +kernel
theorem dX9_fire_11 : decode cX9_fire 11 = .ok (.aload_n 0, 1) := by decide +kernel
theorem dX9_fire_12 : decode cX9_fire 12 = .ok (.iload_n 3, 1) := by decide +kernel
theorem dX9_fire_13 : decode cX9_fire 13 = .ok (.iconst 4, 1) := by decide +kernel
theorem dX9_fire_14 : decode cX9_fire 14 = .ok (.iadd, 1) := by decide +kernel
theorem dX9_fire_15 : decode cX9_fire 15 = .ok (.aload_n 0, 1) := by decide +kernel
theorem dX9_fire_16 : decode cX9_fire 16 = .ok (.iload_n 3, 1) := by decide +kernel
theorem dX9_fire_17 : decode cX9_fire 17 = .ok (.iconst 2, 1) := by decide +kernel
theorem dX9_fire_18 : decode cX9_fire 18 = .ok (.iadd, 1) := by decide +kernel
theorem dX9_fire_19 : decode cX9_fire 19 = .ok (.iaload, 1) := by decide +kernel
theorem dX9_fire_20 : decode cX9_fire 20 = .ok (.iastore, 1) := by decide +kernel
theorem dX9_fire_21 : decode cX9_fire 21 = .ok (.aload_n 0, 1) := by decide +kernel
theorem dX9_fire_22 : decode cX9_fire 22 = .ok (.iload_n 3, 1) := by decide +kernel
theorem dX9_fire_23 : decode cX9_fire 23 = .ok (.iconst 1, 1) := by decide +kernel
theorem dX9_fire_24 : decode cX9_fire 24 = .ok (.iadd, 1) := by decide +kernel
theorem dX9_fire_25 : decode cX9_fire 25 = .ok (.iaload, 1) := by decide +kernel
theorem dX9_fire_26 : decode cX9_fire 26 = .ok (.ireturn, 1) := by decide +kernel
theorem dX9_unload_0 : decode cX9_unload 0 = .ok (.iload_n 1, 1) := by decide +kernel
theorem dX9_unload_1 : decode cX9_unload 1 = .ok (.invokestatic 100, 3) := by decide +kernel
theorem dX9_unload_4 : decode cX9_unload 4 = .ok (.istore_n 2, 1) := by decide +kernel
theorem dX9_unload_5 : decode cX9_unload 5 = .ok (.iconst 0, 1) := by decide +kernel
theorem dX9_unload_6 : decode cX9_unload 6 = .ok (.istore_n 3, 1) := by decide +kernel
theorem dX9_unload_7 : decode cX9_unload 7 = .ok (.iload_n 3, 1) := by decide +kernel
theorem dX9_unload_8 : decode cX9_unload 8 = .ok (.aload_n 0, 1) := by decide +kernel
theorem dX9_unload_9 : decode cX9_unload 9 = .ok (.iload_n 2, 1) := by decide +kernel
theorem dX9_unload_10 : decode cX9_unload 10 = .ok (.iconst 1, 1) := by decide +kernel
theorem dX9_unload_11 : decode cX9_unload 11 = .ok (.iadd, 1) := by decide +kernel
theorem dX9_unload_12 : decode cX9_unload 12 = .ok (.iaload, 1) := by decide +kernel
theorem dX9_unload_13 : decode cX9_unload 13 = .ok (.if_icmp .ge 51, 3) := by decide +kernel
theorem dX9_unload_16 : decode cX9_unload 16 = .ok (.aload_n 0, 1) := by decide +kernel
theorem dX9_unload_17 : decode cX9_unload 17 = .ok (.iconst 3, 1) := by decide +kernel
theorem dX9_unload_18 : decode cX9_unload 18 = .ok (.iaload, 1) := by decide +kernel
theorem dX9_unload_19 : decode cX9_unload 19 = .ok (.invokestatic 89, 3) := by decide +kernel
theorem dX9_unload_22 : decode cX9_unload 22 = .ok (.istore 4, 2) := by decide +kernel
theorem dX9_unload_24 : decode cX9_unload 24 = .ok (.aload_n 0, 1) := by decide +kernel
theorem dX9_unload_25 : decode cX9_unload 25 = .ok (.iload 4, 2) := by decide +kernel
theorem dX9_unload_27 : decode cX9_unload 27 = .ok (.iconst 0, 1) := by decide +kernel
theorem dX9_unload_28 : decode cX9_unload 28 = .ok (.iadd, 1) := by decide +kernel
theorem dX9_unload_29 : decode cX9_unload 29 = .ok (.aload_n 0, 1) := by decide +kernel
theorem dX9_unload_30 : decode cX9_unload 30 = .ok (.iload_n 2, 1) := by decide +kernel
theorem dX9_unload_31 : decode cX9_unload 31 = .ok (.iconst 3, 1) := by decide +kernel
theorem dX9_unload_32 : decode cX9_unload 32 = .ok (.iadd, 1) := by decide +kernel
theorem dX9_unload_33 : decode cX9_unload 33 = .ok (.iaload, 1) := by decide +kernel
theorem dX9_unload_34 : decode cX9_unload 34 = .ok (.iastore, 1) := by decide +kernel
theorem dX9_unload_35 : decode cX9_unload 35 = .ok (.aload_n 0, 1) := by decide +kernel
theorem dX9_unload_36 : decode cX9_unload 36 = .ok (.iload 4, 2) := by decide +kernel
theorem dX9_unload_38 : decode cX9_unload 38 = .ok (.iconst 1, 1) := by decide +kernel
theorem dX9_unload_39 : decode cX9_unload 39 = .ok (.iadd, 1) := by decide +kernel
theorem dX9_unload_40 : decode cX9_unload 40 = .ok (.iload_n 1, 1) := by decide +kernel
theorem dX9_unload_41 : decode cX9_unload 41 = .ok (.iastore, 1) := by decide +kernel
theorem dX9_unload_42 : decode cX9_unload 42 = .ok (.aload_n 0, 1) := by decide +kernel
theorem dX9_unload_43 : decode cX9_unload 43 = .ok (.iload 4, 2) := by decide +kernel
theorem dX9_unload_45 : decode cX9_unload 45 = .ok (.iconst 2, 1) := by decide +kernel
theorem dX9_unload_46 : decode cX9_unload 46 = .ok (.iadd, 1) := by decide +kernel
theorem dX9_unload_47 : decode cX9_unload 47 = .ok (.aload_n 0, 1) := by decide +kernel
theorem dX9_unload_48 : decode cX9_unload 48 = .ok (.iconst 0, 1) := by decide +kernel
theorem dX9_unload_49 : decode cX9_unload 49 = .ok (.iaload, 1) := by decide +kernel
theorem dX9_unload_50 : decode cX9_unload 50 = .ok (.iastore, 1) := by decide +kernel
theorem dX9_unload_51 : decode cX9_unload 51 = .ok (.aload_n 0, 1) := by decide +kernel
theorem dX9_unload_52 : decode cX9_unload 52 = .ok (.iconst 3, 1) := by decide +kernel
theorem dX9_unload_53 : decode cX9_unload 53 = .ok (.dup2, 1) := by decide +kernel
theorem dX9_unload_54 : decode cX9_unload 54 = .ok (.iaload, 1) := by decide +kernel
theorem dX9_unload_55 : decode cX9_unload 55 = .ok (.iconst 1, 1) := by decide +kernel
theorem dX9_unload_56 : decode cX9_unload 56 = .ok (.iadd, 1) := by decide +kernel
theorem dX9_unload_57 : decode cX9_unload 57 = .ok (.iastore, 1) := by decide +kernel
theorem dX9_unload_58 : decode cX9_unload 58 = .ok (.iinc 3 1, 3) := by decide +kernel
theorem dX9_unload_61 : decode cX9_unload 61 = .ok (.goto (-54), 3) := by decide +kernel
theorem dX9_unload_64 : decode cX9_unload 64 = .ok (.aload_n 0, 1) := by decide +kernel
theorem dX9_unload_65 : decode cX9_unload 65 = .ok (.bipush 10, 2) := by decide +kernel
theorem dX9_unload_67 : decode cX9_unload 67 = .ok (.dup2, 1) := by decide +kernel
theorem dX9_unload_68 : decode cX9_unload 68 = .ok (.iaload, 1) := by decide +kernel
theorem dX9_unload_69 : decode cX9_unload 69 = .ok (.aload_n 0, 1) := by decide +kernel
theorem dX9_unload_70 : decode cX9_unload 70 = .ok (.iload_n 2, 1) := by decide +kernel
theorem dX9_unload_71 : decode cX9_unload 71 = .ok (.iconst 1, 1) := by decide +kernel
theorem dX9_unload_72 : decode cX9_unload 72 = .ok (.iadd, 1) := by decide +kernel
theorem dX9_unload_73 : decode cX9_unload 73 = .ok (.iaload, 1) := by decide +kernel
theorem dX9_unload_74 : decode cX9_unload 74 = .ok (.iadd, 1) := by decide +kernel
theorem dX9_unload_75 : decode cX9_unload 75 = .ok (.iastore, 1) := by decide +kernel
theorem dX9_unload_76 : decode cX9_unload 76 = .ok (.aload_n 0, 1) := by decide +kernel
theorem dX9_unload_77 : decode cX9_unload 77 = .ok (.iconst 0, 1) := by decide +kernel
theorem dX9_unload_78 : decode cX9_unload 78 = .ok (.iload_n 1, 1) := by decide +kernel
theorem dX9_unload_79 : decode cX9_unload 79 = .ok (.aload_n 0, 1) := by decide +kernel
theorem dX9_unload_80 : decode cX9_unload 80 = .ok (.iload_n 2, 1) := by decide +kernel
theorem dX9_unload_81 : decode cX9_unload 81 = .ok (.iconst 1, 1) := by decide +kernel
theorem dX9_unload_82 : decode cX9_unload 82 = .ok (.iadd, 1) := by decide +kernel
theorem dX9_unload_83 : decode cX9_unload 83 = .ok (.iaload, 1) := by decide +kernel
theorem dX9_unload_84 : decode cX9_unload 84 = .ok (.invokestatic 107, 3) := by decide +kernel
theorem dX9_unload_87 : decode cX9_unload 87 = .ok (.return_, 1) := by decide +kernel
theorem dX9_bidsOf_0 : decode cX9_bidsOf 0 = .ok (.iload_n 1, 1) := by decide +kernel
theorem dX9_bidsOf_1 : decode cX9_bidsOf 1 = .ok (.invokestatic 111, 3) := by decide +kernel
theorem dX9_bidsOf_4 : decode cX9_bidsOf 4 = .ok (.istore_n 2, 1) := by decide +kernel
theorem dX9_bidsOf_5 : decode cX9_bidsOf 5 = .ok (.aload_n 0, 1) := by decide +kernel
theorem dX9_bidsOf_6 : decode cX9_bidsOf 6 = .ok (.iload_n 2, 1) := by decide +kernel
theorem dX9_bidsOf_7 : decode cX9_bidsOf 7 = .ok (.iconst 4, 1) := by decide +kernel
theorem dX9_bidsOf_8 : decode cX9_bidsOf 8 = .ok (.iadd, 1) := by decide +kernel
theorem dX9_bidsOf_9 : decode cX9_bidsOf 9 = .ok (.iaload, 1) := by decide +kernel
theorem dX9_bidsOf_10 : decode cX9_bidsOf 10 = .ok (.aload_n 0, 1) := by decide +kernel
theorem dX9_bidsOf_11 : decode cX9_bidsOf 11 = .ok (.iload_n 2, 1) := by decide +kernel
theorem dX9_bidsOf_12 : decode cX9_bidsOf 12 = .ok (.iconst 3, 1) := by decide +kernel
theorem dX9_bidsOf_13 : decode cX9_bidsOf 13 = .ok (.iadd, 1) := by decide +kernel
theorem dX9_bidsOf_14 : decode cX9_bidsOf 14 = .ok (.iaload, 1) := by decide +kernel
theorem dX9_bidsOf_15 : decode cX9_bidsOf 15 = .ok (.idiv, 1) := by decide +kernel
theorem dX9_bidsOf_16 : decode cX9_bidsOf 16 = .ok (.istore_n 3, 1) := by decide +kernel
theorem dX9_bidsOf_17 : decode cX9_bidsOf 17 = .ok (.iload_n 3, 1) := by decide +kernel
theorem dX9_bidsOf_18 : decode cX9_bidsOf 18 = .ok (.aload_n 0, 1) := by decide +kernel
theorem dX9_bidsOf_19 : decode cX9_bidsOf 19 = .ok (.iload_n 2, 1) := by decide +kernel
theorem dX9_bidsOf_20 : decode cX9_bidsOf 20 = .ok (.iconst 2, 1) := by decide +kernel
theorem dX9_bidsOf_21 : decode cX9_bidsOf 21 = .ok (.iadd, 1) := by decide +kernel
theorem dX9_bidsOf_22 : decode cX9_bidsOf 22 = .ok (.iaload, 1) := by decide +kernel
theorem dX9_bidsOf_23 : decode cX9_bidsOf 23 = .ok (.if_icmp .ge 7, 3) := by decide +kernel
theorem dX9_bidsOf_26 : decode cX9_bidsOf 26 = .ok (.iload_n 3, 1) := by decide +kernel
theorem dX9_bidsOf_27 : decode cX9_bidsOf 27 = .ok (.goto 8, 3) := by decide +kernel
theorem dX9_bidsOf_30 : decode cX9_bidsOf 30 = .ok (.aload_n 0, 1) := by decide +kernel
theorem dX9_bidsOf_31 : decode cX9_bidsOf 31 = .ok (.iload_n 2, 1) := by decide +kernel
theorem dX9_bidsOf_32 : decode cX9_bidsOf 32 = .ok (.iconst 2, 1) := by decide +kernel
theorem dX9_bidsOf_33 : decode cX9_bidsOf 33 = .ok (.iadd, 1) := by decide +kernel
theorem dX9_bidsOf_34 : decode cX9_bidsOf 34 = .ok (.iaload, 1) := by decide +kernel
theorem dX9_bidsOf_35 : decode cX9_bidsOf 35 = .ok (.ireturn, 1) := by decide +kernel
theorem dX9_gatherBids_0 : decode cX9_gatherBids 0 = .ok (.aload_n 0, 1) := by decide +kernel
theorem dX9_gatherBids_1 : decode cX9_gatherBids 1 = .ok (.iconst 0, 1) := by decide +kernel
theorem dX9_gatherBids_2 : decode cX9_gatherBids 2 = .ok (.putfield 114, 3) := by decide +kernel
theorem dX9_gatherBids_5 : decode cX9_gatherBids 5 = .ok (.bipush 99, 2) := by decide +kernel
theorem dX9_gatherBids_7 : decode cX9_gatherBids 7 = .ok (.istore_n 3, 1) := by decide +kernel
theorem dX9_gatherBids_8 : decode cX9_gatherBids 8 = .ok (.iload_n 3, 1) := by decide +kernel
theorem dX9_gatherBids_9 : decode cX9_gatherBids 9 = .ok (.ifCond .le 105, 3) := by decide +kernel
theorem dX9_gatherBids_12 : decode cX9_gatherBids 12 = .ok (.iconst 0, 1) := by decide +kernel
theorem dX9_gatherBids_13 : decode cX9_gatherBids 13 = .ok (.istore 4, 2) := by decide +kernel
theorem dX9_gatherBids_15 : decode cX9_gatherBids 15 = .ok (.iload 4, 2) := by decide +kernel
theorem dX9_gatherBids_17 : decode cX9_gatherBids 17 = .ok (.aload_n 1, 1) := by decide +kernel
theorem dX9_gatherBids_18 : decode cX9_gatherBids 18 = .ok (.iconst 2, 1) := by decide +kernel
theorem dX9_gatherBids_19 : decode cX9_gatherBids 19 = .ok (.iaload, 1) := by decide +kernel
theorem dX9_gatherBids_20 : decode cX9_gatherBids 20 = .ok (.if_icmp .ge 88, 3) := by decide +kernel
theorem dX9_gatherBids_23 : decode cX9_gatherBids 23 = .ok (.aload_n 1, 1) := by decide +kernel
theorem dX9_gatherBids_24 : decode cX9_gatherBids 24 = .ok (.iload 4, 2) := by decide +kernel
theorem dX9_gatherBids_26 : decode cX9_gatherBids 26 = .ok (.invokestatic 111, 3) := by decide +kernel
theorem dX9_gatherBids_29 : decode cX9_gatherBids 29 = .ok (.iconst 1, 1) := by decide +kernel
theorem dX9_gatherBids_30 : decode cX9_gatherBids 30 = .ok (.iadd, 1) := by decide +kernel
theorem dX9_gatherBids_31 : decode cX9_gatherBids 31 = .ok (.iaload, 1) := by decide +kernel
theorem dX9_gatherBids_32 : decode cX9_gatherBids 32 = .ok (.iload_n 2, 1) := by decide +kernel
theorem dX9_gatherBids_33 : decode cX9_gatherBids 33 = .ok (.if_icmp .ne 20, 3) := by decide +kernel
theorem dX9_gatherBids_36 : decode cX9_gatherBids 36 = .ok (.aload_n 1, 1) := by decide +kernel
theorem dX9_gatherBids_37 : decode cX9_gatherBids 37 = .ok (.iload 4, 2) := by decide +kernel
theorem dX9_gatherBids_39 : decode cX9_gatherBids 39 = .ok (.invokestatic 111, 3) := by decide +kernel
theorem dX9_gatherBids_42 : decode cX9_gatherBids 42 = .ok (.iconst 3, 1) := by decide +kernel
theorem dX9_gatherBids_43 : decode cX9_gatherBids 43 = .ok (.iadd, 1) := by decide +kernel
theorem dX9_gatherBids_44 : decode cX9_gatherBids 44 = .ok (.iaload, 1) := by decide +kernel
theorem dX9_gatherBids_45 : decode cX9_gatherBids 45 = .ok (.iload_n 3, 1) := by decide +kernel
theorem dX9_gatherBids_46 : decode cX9_gatherBids 46 = .ok (.if_icmp .ne 7, 3) := by decide +kernel
theorem dX9_gatherBids_49 : decode cX9_gatherBids 49 = .ok (.iconst 1, 1) := by decide +kernel
theorem dX9_gatherBids_50 : decode cX9_gatherBids 50 = .ok (.goto 4, 3) := by decide +kernel
theorem dX9_gatherBids_53 : decode cX9_gatherBids 53 = .ok (.iconst 0, 1) := by decide +kernel
theorem dX9_gatherBids_54 : decode cX9_gatherBids 54 = .ok (.istore 5, 2) := by decide +kernel
theorem dX9_gatherBids_56 : decode cX9_gatherBids 56 = .ok (.iconst 0, 1) := by decide +kernel
theorem dX9_gatherBids_57 : decode cX9_gatherBids 57 = .ok (.istore 6, 2) := by decide +kernel
theorem dX9_gatherBids_59 : decode cX9_gatherBids 59 = .ok (.iload 5, 2) := by decide +kernel
theorem dX9_gatherBids_61 : decode cX9_gatherBids 61 = .ok (.ifCond .eq 41, 3) := by decide +kernel
theorem dX9_gatherBids_64 : decode cX9_gatherBids 64 = .ok (.iload 6, 2) := by decide +kernel
theorem dX9_gatherBids_66 : decode cX9_gatherBids 66 = .ok (.aload_n 1, 1) := by decide +kernel
theorem dX9_gatherBids_67 : decode cX9_gatherBids 67 = .ok (.iload 4, 2) := by decide +kernel
theorem dX9_gatherBids_69 : decode cX9_gatherBids 69 = .ok (.invokestatic 117, 3) := by decide +kernel
theorem dX9_gatherBids_72 : decode cX9_gatherBids 72 = .ok (.if_icmp .ge 30, 3) := by decide +kernel
theorem dX9_gatherBids_75 : decode cX9_gatherBids 75 = .ok (.aload_n 0, 1) := by decide +kernel
theorem dX9_gatherBids_76 : decode cX9_gatherBids 76 = .ok (.getfield 29, 3) := by decide +kernel
theorem dX9_gatherBids_79 : decode cX9_gatherBids 79 = .ok (.aload_n 0, 1) := by decide +kernel
theorem dX9_gatherBids_80 : decode cX9_gatherBids 80 = .ok (.getfield 114, 3) := by decide +kernel
theorem dX9_gatherBids_83 : decode cX9_gatherBids 83 = .ok (.iload 4, 2) := by decide +kernel
theorem dX9_gatherBids_85 : decode cX9_gatherBids 85 = .ok (.iastore, 1) := by decide +kernel
theorem dX9_gatherBids_86 : decode cX9_gatherBids 86 = .ok (.aload_n 0, 1) := by decide +kernel
theorem dX9_gatherBids_87 : decode cX9_gatherBids 87 = .ok (.dup, 1) := by decide +kernel
theorem dX9_gatherBids_88 : decode cX9_gatherBids 88 = .ok (.getfield 114, 3) := by decide +kernel
theorem dX9_gatherBids_91 : decode cX9_gatherBids 91 = .ok (.iconst 1, 1) := by decide +kernel
theorem dX9_gatherBids_92 : decode cX9_gatherBids 92 = .ok (.iadd, 1) := by decide +kernel
theorem dX9_gatherBids_93 : decode cX9_gatherBids 93 = .ok (.putfield 114, 3) := by decide +kernel
theorem dX9_gatherBids_96 : decode cX9_gatherBids 96 = .ok (.iinc 6 1, 3) := by decide +kernel
theorem dX9_gatherBids_99 : decode cX9_gatherBids 99 = .ok (.goto (-40), 3) := by decide +kernel
theorem dX9_gatherBids_102 : decode cX9_gatherBids 102 = .ok (.iinc 4 1, 3) := by decide +kernel
theorem dX9_gatherBids_105 : decode cX9_gatherBids 105 = .ok (.goto (-90), 3) := by decide +kernel
theorem dX9_gatherBids_108 : decode cX9_gatherBids 108 = .ok (.iinc 3 (-1), 3) := by decide +kernel
theorem dX9_gatherBids_111 : decode cX9_gatherBids 111 = .ok (.goto (-103), 3) := by decide +kernel
theorem dX9_gatherBids_114 : decode cX9_gatherBids 114 = .ok (.return_, 1) := by decide +kernel
theorem dX9_gatherLoaves_0 : decode cX9_gatherLoaves 0 = .ok (.aload_n 0, 1) := by decide +kernel
theorem dX9_gatherLoaves_1 : decode cX9_gatherLoaves 1 = .ok (.iconst 0, 1) := by decide +kernel
theorem dX9_gatherLoaves_2 : decode cX9_gatherLoaves 2 = .ok (.putfield 120, 3) := by decide +kernel
theorem dX9_gatherLoaves_5 : decode cX9_gatherLoaves 5 = .ok (.iconst 0, 1) := by decide +kernel
theorem dX9_gatherLoaves_6 : decode cX9_gatherLoaves 6 = .ok (.istore_n 3, 1) := by decide +kernel
theorem dX9_gatherLoaves_7 : decode cX9_gatherLoaves 7 = .ok (.iload_n 3, 1) := by decide +kernel
theorem dX9_gatherLoaves_8 : decode cX9_gatherLoaves 8 = .ok (.aload_n 1, 1) := by decide +kernel
theorem dX9_gatherLoaves_9 : decode cX9_gatherLoaves 9 = .ok (.iconst 3, 1) := by decide +kernel
theorem dX9_gatherLoaves_10 : decode cX9_gatherLoaves 10 = .ok (.iaload, 1) := by decide +kernel
theorem dX9_gatherLoaves_11 : decode cX9_gatherLoaves 11 = .ok (.if_icmp .ge 93, 3) := by decide +kernel
theorem dX9_gatherLoaves_14 : decode cX9_gatherLoaves 14 = .ok (.aload_n 1, 1) := by decide +kernel
theorem dX9_gatherLoaves_15 : decode cX9_gatherLoaves 15 = .ok (.iload_n 3, 1) := by decide +kernel
theorem dX9_gatherLoaves_16 : decode cX9_gatherLoaves 16 = .ok (.invokestatic 89, 3) := by decide +kernel
theorem dX9_gatherLoaves_19 : decode cX9_gatherLoaves 19 = .ok (.iconst 0, 1) := by decide +kernel
theorem dX9_gatherLoaves_20 : decode cX9_gatherLoaves 20 = .ok (.iadd, 1) := by decide +kernel
theorem dX9_gatherLoaves_21 : decode cX9_gatherLoaves 21 = .ok (.iaload, 1) := by decide +kernel
theorem dX9_gatherLoaves_22 : decode cX9_gatherLoaves 22 = .ok (.iload_n 2, 1) := by decide +kernel
theorem dX9_gatherLoaves_23 : decode cX9_gatherLoaves 23 = .ok (.if_icmp .ne 75, 3) := by decide +kernel
theorem dX9_gatherLoaves_26 : decode cX9_gatherLoaves 26 = .ok (.aload_n 0, 1) := by decide +kernel
theorem dX9_gatherLoaves_27 : decode cX9_gatherLoaves 27 = .ok (.getfield 120, 3) := by decide +kernel
theorem dX9_gatherLoaves_30 : decode cX9_gatherLoaves 30 = .ok (.istore 4, 2) := by decide +kernel
theorem dX9_gatherLoaves_32 : decode cX9_gatherLoaves 32 = .ok (.iload 4, 2) := by decide +kernel
theorem dX9_gatherLoaves_34 : decode cX9_gatherLoaves 34 = .ok (.ifCond .le 46, 3) := by decide +kernel
theorem dX9_gatherLoaves_37 : decode cX9_gatherLoaves 37 = .ok (.aload_n 1, 1) := by decide +kernel
theorem dX9_gatherLoaves_38 : decode cX9_gatherLoaves 38 = .ok (.aload_n 0, 1) := by decide +kernel
theorem dX9_gatherLoaves_39 : decode cX9_gatherLoaves 39 = .ok (.getfield 32, 3) := by decide +kernel
theorem dX9_gatherLoaves_42 : decode cX9_gatherLoaves 42 = .ok (.iload 4, 2) := by decide +kernel
theorem dX9_gatherLoaves_44 : decode cX9_gatherLoaves 44 = .ok (.iconst 1, 1) := by decide +kernel
theorem dX9_gatherLoaves_45 : decode cX9_gatherLoaves 45 = .ok (.isub, 1) := by decide +kernel
theorem dX9_gatherLoaves_46 : decode cX9_gatherLoaves 46 = .ok (.iaload, 1) := by decide +kernel
theorem dX9_gatherLoaves_47 : decode cX9_gatherLoaves 47 = .ok (.invokestatic 123, 3) := by decide +kernel
theorem dX9_gatherLoaves_50 : decode cX9_gatherLoaves 50 = .ok (.aload_n 1, 1) := by decide +kernel
theorem dX9_gatherLoaves_51 : decode cX9_gatherLoaves 51 = .ok (.iload_n 3, 1) := by decide +kernel
theorem dX9_gatherLoaves_52 : decode cX9_gatherLoaves 52 = .ok (.invokestatic 123, 3) := by decide +kernel
theorem dX9_gatherLoaves_55 : decode cX9_gatherLoaves 55 = .ok (.if_icmp .le 25, 3) := by decide +kernel
theorem dX9_gatherLoaves_58 : decode cX9_gatherLoaves 58 = .ok (.aload_n 0, 1) := by decide +kernel
theorem dX9_gatherLoaves_59 : decode cX9_gatherLoaves 59 = .ok (.getfield 32, 3) := by decide +kernel
theorem dX9_gatherLoaves_62 : decode cX9_gatherLoaves 62 = .ok (.iload 4, 2) := by decide +kernel
theorem dX9_gatherLoaves_64 : decode cX9_gatherLoaves 64 = .ok (.aload_n 0, 1) := by decide +kernel
theorem dX9_gatherLoaves_65 : decode cX9_gatherLoaves 65 = .ok (.getfield 32, 3) := by decide +kernel
theorem dX9_gatherLoaves_68 : decode cX9_gatherLoaves 68 = .ok (.iload 4, 2) := by decide +kernel
theorem dX9_gatherLoaves_70 : decode cX9_gatherLoaves 70 = .ok (.iconst 1, 1) := by decide +kernel
theorem dX9_gatherLoaves_71 : decode cX9_gatherLoaves 71 = .ok (.isub, 1) := by decide +kernel
theorem dX9_gatherLoaves_72 : decode cX9_gatherLoaves 72 = .ok (.iaload, 1) := by decide +kernel
theorem dX9_gatherLoaves_73 : decode cX9_gatherLoaves 73 = .ok (.iastore, 1) := by decide +kernel
theorem dX9_gatherLoaves_74 : decode cX9_gatherLoaves 74 = .ok (.iinc 4 (-1), 3) := by decide +kernel
theorem dX9_gatherLoaves_77 : decode cX9_gatherLoaves 77 = .ok (.goto (-45), 3) := by decide +kernel
theorem dX9_gatherLoaves_80 : decode cX9_gatherLoaves 80 = .ok (.aload_n 0, 1) := by decide +kernel
theorem dX9_gatherLoaves_81 : decode cX9_gatherLoaves 81 = .ok (.getfield 32, 3) := by decide +kernel
theorem dX9_gatherLoaves_84 : decode cX9_gatherLoaves 84 = .ok (.iload 4, 2) := by decide +kernel
theorem dX9_gatherLoaves_86 : decode cX9_gatherLoaves 86 = .ok (.iload_n 3, 1) := by decide +kernel
theorem dX9_gatherLoaves_87 : decode cX9_gatherLoaves 87 = .ok (.iastore, 1) := by decide +kernel
theorem dX9_gatherLoaves_88 : decode cX9_gatherLoaves 88 = .ok (.aload_n 0, 1) := by decide +kernel
theorem dX9_gatherLoaves_89 : decode cX9_gatherLoaves 89 = .ok (.dup, 1) := by decide +kernel
theorem dX9_gatherLoaves_90 : decode cX9_gatherLoaves 90 = .ok (.getfield 120, 3) := by decide +kernel
theorem dX9_gatherLoaves_93 : decode cX9_gatherLoaves 93 = .ok (.iconst 1, 1) := by decide +kernel
theorem dX9_gatherLoaves_94 : decode cX9_gatherLoaves 94 = .ok (.iadd, 1) := by decide +kernel
theorem dX9_gatherLoaves_95 : decode cX9_gatherLoaves 95 = .ok (.putfield 120, 3) := by decide +kernel
theorem dX9_gatherLoaves_98 : decode cX9_gatherLoaves 98 = .ok (.iinc 3 1, 3) := by decide +kernel
theorem dX9_gatherLoaves_101 : decode cX9_gatherLoaves 101 = .ok (.goto (-94), 3) := by decide +kernel
theorem dX9_gatherLoaves_104 : decode cX9_gatherLoaves 104 = .ok (.return_, 1) := by decide +kernel
theorem dX9_bidAt_0 : decode cX9_bidAt 0 = .ok (.aload_n 1, 1) := by decide +kernel
theorem dX9_bidAt_1 : decode cX9_bidAt 1 = .ok (.aload_n 0, 1) := by decide +kernel
theorem dX9_bidAt_2 : decode cX9_bidAt 2 = .ok (.getfield 29, 3) := by decide +kernel
theorem dX9_bidAt_5 : decode cX9_bidAt 5 = .ok (.iload_n 2, 1) := by decide +kernel
theorem dX9_bidAt_6 : decode cX9_bidAt 6 = .ok (.iaload, 1) := by decide +kernel
theorem dX9_bidAt_7 : decode cX9_bidAt 7 = .ok (.invokestatic 111, 3) := by decide +kernel
theorem dX9_bidAt_10 : decode cX9_bidAt 10 = .ok (.iconst 3, 1) := by decide +kernel
theorem dX9_bidAt_11 : decode cX9_bidAt 11 = .ok (.iadd, 1) := by decide +kernel
theorem dX9_bidAt_12 : decode cX9_bidAt 12 = .ok (.iaload, 1) := by decide +kernel
theorem dX9_bidAt_13 : decode cX9_bidAt 13 = .ok (.ireturn, 1) := by decide +kernel
theorem dX9_settle_0 : decode cX9_settle 0 = .ok (.aload_n 0, 1) := by decide +kernel
theorem dX9_settle_1 : decode cX9_settle 1 = .ok (.aload_n 1, 1) := by decide +kernel
theorem dX9_settle_2 : decode cX9_settle 2 = .ok (.iload_n 2, 1) := by decide +kernel
theorem dX9_settle_3 : decode cX9_settle 3 = .ok (.invokevirtual 126, 3) := by decide +kernel
theorem dX9_settle_6 : decode cX9_settle 6 = .ok (.aload_n 0, 1) := by decide +kernel
theorem dX9_settle_7 : decode cX9_settle 7 = .ok (.aload_n 1, 1) := by decide +kernel
theorem dX9_settle_8 : decode cX9_settle 8 = .ok (.iload_n 2, 1) := by decide +kernel
theorem dX9_settle_9 : decode cX9_settle 9 = .ok (.invokevirtual 130, 3) := by decide +kernel
theorem dX9_settle_12 : decode cX9_settle 12 = .ok (.aload_n 0, 1) := by decide +kernel
theorem dX9_settle_13 : decode cX9_settle 13 = .ok (.iconst 0, 1) := by decide +kernel
theorem dX9_settle_14 : decode cX9_settle 14 = .ok (.putfield 133, 3) := by decide +kernel
theorem dX9_settle_17 : decode cX9_settle 17 = .ok (.aload_n 0, 1) := by decide +kernel
theorem dX9_settle_18 : decode cX9_settle 18 = .ok (.getfield 133, 3) := by decide +kernel
theorem dX9_settle_21 : decode cX9_settle 21 = .ok (.aload_n 0, 1) := by decide +kernel
theorem dX9_settle_22 : decode cX9_settle 22 = .ok (.getfield 114, 3) := by decide +kernel
theorem dX9_settle_25 : decode cX9_settle 25 = .ok (.if_icmp .ge 52, 3) := by decide +kernel
theorem dX9_settle_28 : decode cX9_settle 28 = .ok (.aload_n 0, 1) := by decide +kernel
theorem dX9_settle_29 : decode cX9_settle 29 = .ok (.getfield 133, 3) := by decide +kernel
theorem dX9_settle_32 : decode cX9_settle 32 = .ok (.aload_n 0, 1) := by decide +kernel
theorem dX9_settle_33 : decode cX9_settle 33 = .ok (.getfield 120, 3) := by decide +kernel
theorem dX9_settle_36 : decode cX9_settle 36 = .ok (.if_icmp .ge 41, 3) := by decide +kernel
theorem dX9_settle_39 : decode cX9_settle 39 = .ok (.aload_n 0, 1) := by decide +kernel
theorem dX9_settle_40 : decode cX9_settle 40 = .ok (.aload_n 1, 1) := by decide +kernel
theorem dX9_settle_41 : decode cX9_settle 41 = .ok (.aload_n 0, 1) := by decide +kernel
theorem dX9_settle_42 : decode cX9_settle 42 = .ok (.getfield 133, 3) := by decide +kernel
theorem dX9_settle_45 : decode cX9_settle 45 = .ok (.invokevirtual 136, 3) := by decide +kernel
theorem dX9_settle_48 : decode cX9_settle 48 = .ok (.aload_n 1, 1) := by decide +kernel
theorem dX9_settle_49 : decode cX9_settle 49 = .ok (.aload_n 0, 1) := by decide +kernel
theorem dX9_settle_50 : decode cX9_settle 50 = .ok (.getfield 32, 3) := by decide +kernel
theorem dX9_settle_53 : decode cX9_settle 53 = .ok (.aload_n 0, 1) := by decide +kernel
theorem dX9_settle_54 : decode cX9_settle 54 = .ok (.getfield 133, 3) := by decide +kernel
theorem dX9_settle_57 : decode cX9_settle 57 = .ok (.iaload, 1) := by decide +kernel
theorem dX9_settle_58 : decode cX9_settle 58 = .ok (.invokestatic 123, 3) := by decide +kernel
theorem dX9_settle_61 : decode cX9_settle 61 = .ok (.if_icmp .lt 16, 3) := by decide +kernel
theorem dX9_settle_64 : decode cX9_settle 64 = .ok (.aload_n 0, 1) := by decide +kernel
theorem dX9_settle_65 : decode cX9_settle 65 = .ok (.dup, 1) := by decide +kernel
theorem dX9_settle_66 : decode cX9_settle 66 = .ok (.getfield 133, 3) := by decide +kernel
theorem dX9_settle_69 : decode cX9_settle 69 = .ok (.iconst 1, 1) := by decide +kernel
theorem dX9_settle_70 : decode cX9_settle 70 = .ok (.iadd, 1) := by decide +kernel
theorem dX9_settle_71 : decode cX9_settle 71 = .ok (.putfield 133, 3) := by decide +kernel
theorem dX9_settle_74 : decode cX9_settle 74 = .ok (.goto (-57), 3) := by decide +kernel
theorem dX9_settle_77 : decode cX9_settle 77 = .ok (.aload_n 0, 1) := by decide +kernel
theorem dX9_settle_78 : decode cX9_settle 78 = .ok (.iconst (-1), 1) := by decide +kernel
theorem dX9_settle_79 : decode cX9_settle 79 = .ok (.putfield 139, 3) := by decide +kernel
theorem dX9_settle_82 : decode cX9_settle 82 = .ok (.aload_n 0, 1) := by decide +kernel
theorem dX9_settle_83 : decode cX9_settle 83 = .ok (.getfield 133, 3) := by decide +kernel
theorem dX9_settle_86 : decode cX9_settle 86 = .ok (.ifCond .le 103, 3) := by decide +kernel
theorem dX9_settle_89 : decode cX9_settle 89 = .ok (.aload_n 0, 1) := by decide +kernel
theorem dX9_settle_90 : decode cX9_settle 90 = .ok (.iconst 1, 1) := by decide +kernel
theorem dX9_settle_91 : decode cX9_settle 91 = .ok (.putfield 139, 3) := by decide +kernel
theorem dX9_settle_94 : decode cX9_settle 94 = .ok (.aload_n 0, 1) := by decide +kernel
theorem dX9_settle_95 : decode cX9_settle 95 = .ok (.aload_n 1, 1) := by decide +kernel
theorem dX9_settle_96 : decode cX9_settle 96 = .ok (.aload_n 0, 1) := by decide +kernel
theorem dX9_settle_97 : decode cX9_settle 97 = .ok (.getfield 32, 3) := by decide +kernel
theorem dX9_settle_100 : decode cX9_settle 100 = .ok (.aload_n 0, 1) := by decide +kernel
theorem dX9_settle_101 : decode cX9_settle 101 = .ok (.getfield 133, 3) := by decide +kernel
theorem dX9_settle_104 : decode cX9_settle 104 = .ok (.iconst 1, 1) := by decide +kernel
theorem dX9_settle_105 : decode cX9_settle 105 = .ok (.isub, 1) := by decide +kernel
theorem dX9_settle_106 : decode cX9_settle 106 = .ok (.iaload, 1) := by decide +kernel
theorem dX9_settle_107 : decode cX9_settle 107 = .ok (.invokestatic 123, 3) := by decide +kernel
theorem dX9_settle_110 : decode cX9_settle 110 = .ok (.aload_n 0, 1) := by decide +kernel
theorem dX9_settle_111 : decode cX9_settle 111 = .ok (.getfield 139, 3) := by decide +kernel
theorem dX9_settle_114 : decode cX9_settle 114 = .ok (.if_icmp .le 21, 3) := by decide +kernel
theorem dX9_settle_117 : decode cX9_settle 117 = .ok (.aload_n 1, 1) := by decide +kernel
theorem dX9_settle_118 : decode cX9_settle 118 = .ok (.aload_n 0, 1) := by decide +kernel
theorem dX9_settle_119 : decode cX9_settle 119 = .ok (.getfield 32, 3) := by decide +kernel
theorem dX9_settle_122 : decode cX9_settle 122 = .ok (.aload_n 0, 1) := by decide +kernel
theorem dX9_settle_123 : decode cX9_settle 123 = .ok (.getfield 133, 3) := by decide +kernel
theorem dX9_settle_126 : decode cX9_settle 126 = .ok (.iconst 1, 1) := by decide +kernel
theorem dX9_settle_127 : decode cX9_settle 127 = .ok (.isub, 1) := by decide +kernel
theorem dX9_settle_128 : decode cX9_settle 128 = .ok (.iaload, 1) := by decide +kernel
theorem dX9_settle_129 : decode cX9_settle 129 = .ok (.invokestatic 123, 3) := by decide +kernel
theorem dX9_settle_132 : decode cX9_settle 132 = .ok (.goto 7, 3) := by decide +kernel
theorem dX9_settle_135 : decode cX9_settle 135 = .ok (.aload_n 0, 1) := by decide +kernel
theorem dX9_settle_136 : decode cX9_settle 136 = .ok (.getfield 139, 3) := by decide +kernel
theorem dX9_settle_139 : decode cX9_settle 139 = .ok (.putfield 139, 3) := by decide +kernel
theorem dX9_settle_142 : decode cX9_settle 142 = .ok (.aload_n 0, 1) := by decide +kernel
theorem dX9_settle_143 : decode cX9_settle 143 = .ok (.aload_n 0, 1) := by decide +kernel
theorem dX9_settle_144 : decode cX9_settle 144 = .ok (.getfield 133, 3) := by decide +kernel
theorem dX9_settle_147 : decode cX9_settle 147 = .ok (.aload_n 0, 1) := by decide +kernel
theorem dX9_settle_148 : decode cX9_settle 148 = .ok (.getfield 114, 3) := by decide +kernel
theorem dX9_settle_151 : decode cX9_settle 151 = .ok (.if_icmp .ge 31, 3) := by decide +kernel
theorem dX9_settle_154 : decode cX9_settle 154 = .ok (.aload_n 0, 1) := by decide +kernel
theorem dX9_settle_155 : decode cX9_settle 155 = .ok (.aload_n 1, 1) := by decide +kernel
theorem dX9_settle_156 : decode cX9_settle 156 = .ok (.aload_n 0, 1) := by decide +kernel
theorem dX9_settle_157 : decode cX9_settle 157 = .ok (.getfield 133, 3) := by decide +kernel
theorem dX9_settle_160 : decode cX9_settle 160 = .ok (.invokevirtual 136, 3) := by decide +kernel
theorem dX9_settle_163 : decode cX9_settle 163 = .ok (.aload_n 0, 1) := by decide +kernel
theorem dX9_settle_164 : decode cX9_settle 164 = .ok (.getfield 139, 3) := by decide +kernel
theorem dX9_settle_167 : decode cX9_settle 167 = .ok (.if_icmp .le 15, 3) := by decide +kernel
theorem dX9_settle_170 : decode cX9_settle 170 = .ok (.aload_n 0, 1) := by decide +kernel
theorem dX9_settle_171 : decode cX9_settle 171 = .ok (.aload_n 1, 1) := by decide +kernel
theorem dX9_settle_172 : decode cX9_settle 172 = .ok (.aload_n 0, 1) := by decide +kernel
theorem dX9_settle_173 : decode cX9_settle 173 = .ok (.getfield 133, 3) := by decide +kernel
theorem dX9_settle_176 : decode cX9_settle 176 = .ok (.invokevirtual 136, 3) := by decide +kernel
theorem dX9_settle_179 : decode cX9_settle 179 = .ok (.goto 7, 3) := by decide +kernel
theorem dX9_settle_182 : decode cX9_settle 182 = .ok (.aload_n 0, 1) := by decide +kernel
theorem dX9_settle_183 : decode cX9_settle 183 = .ok (.getfield 139, 3) := by decide +kernel
theorem dX9_settle_186 : decode cX9_settle 186 = .ok (.putfield 139, 3) := by decide +kernel
theorem dX9_settle_189 : decode cX9_settle 189 = .ok (.return_, 1) := by decide +kernel
theorem dX9_goes_0 : decode cX9_goes 0 = .ok (.iload_n 2, 1) := by decide +kernel
theorem dX9_goes_1 : decode cX9_goes 1 = .ok (.invokestatic 111, 3) := by decide +kernel
theorem dX9_goes_4 : decode cX9_goes 4 = .ok (.istore 4, 2) := by decide +kernel
theorem dX9_goes_6 : decode cX9_goes 6 = .ok (.aload_n 1, 1) := by decide +kernel
theorem dX9_goes_7 : decode cX9_goes 7 = .ok (.bipush 9, 2) := by decide +kernel
theorem dX9_goes_9 : decode cX9_goes 9 = .ok (.dup2, 1) := by decide +kernel
theorem dX9_goes_10 : decode cX9_goes 10 = .ok (.iaload, 1) := by decide +kernel
theorem dX9_goes_11 : decode cX9_goes 11 = .ok (.aload_n 1, 1) := by decide +kernel
theorem dX9_goes_12 : decode cX9_goes 12 = .ok (.iload 4, 2) := by decide +kernel
theorem dX9_goes_14 : decode cX9_goes 14 = .ok (.iconst 4, 1) := by decide +kernel
theorem dX9_goes_15 : decode cX9_goes 15 = .ok (.iadd, 1) := by decide +kernel
theorem dX9_goes_16 : decode cX9_goes 16 = .ok (.iaload, 1) := by decide +kernel
theorem dX9_goes_17 : decode cX9_goes 17 = .ok (.iadd, 1) := by decide +kernel
theorem dX9_goes_18 : decode cX9_goes 18 = .ok (.iastore, 1) := by decide +kernel
theorem dX9_goes_19 : decode cX9_goes 19 = .ok (.aload_n 1, 1) := by decide +kernel
theorem dX9_goes_20 : decode cX9_goes 20 = .ok (.iconst 3, 1) := by decide +kernel
theorem dX9_goes_21 : decode cX9_goes 21 = .ok (.aload_n 1, 1) := by decide +kernel
theorem dX9_goes_22 : decode cX9_goes 22 = .ok (.iload 4, 2) := by decide +kernel
theorem dX9_goes_24 : decode cX9_goes 24 = .ok (.bipush 6, 2) := by decide +kernel
theorem dX9_goes_26 : decode cX9_goes 26 = .ok (.iadd, 1) := by decide +kernel
theorem dX9_goes_27 : decode cX9_goes 27 = .ok (.iaload, 1) := by decide +kernel
theorem dX9_goes_28 : decode cX9_goes 28 = .ok (.iload_n 3, 1) := by decide +kernel
theorem dX9_goes_29 : decode cX9_goes 29 = .ok (.invokestatic 107, 3) := by decide +kernel
theorem dX9_goes_32 : decode cX9_goes 32 = .ok (.aload_n 1, 1) := by decide +kernel
theorem dX9_goes_33 : decode cX9_goes 33 = .ok (.iconst 2, 1) := by decide +kernel
theorem dX9_goes_34 : decode cX9_goes 34 = .ok (.bipush 40, 2) := by decide +kernel
theorem dX9_goes_36 : decode cX9_goes 36 = .ok (.bipush 7, 2) := by decide +kernel
theorem dX9_goes_38 : decode cX9_goes 38 = .ok (.iload_n 2, 1) := by decide +kernel
theorem dX9_goes_39 : decode cX9_goes 39 = .ok (.invokestatic 78, 3) := by decide +kernel
theorem dX9_goes_42 : decode cX9_goes 42 = .ok (.return_, 1) := by decide +kernel
theorem dX9_trade_0 : decode cX9_trade 0 = .ok (.iconst 0, 1) := by decide +kernel
theorem dX9_trade_1 : decode cX9_trade 1 = .ok (.istore_n 3, 1) := by decide +kernel
theorem dX9_trade_2 : decode cX9_trade 2 = .ok (.iload_n 3, 1) := by decide +kernel
theorem dX9_trade_3 : decode cX9_trade 3 = .ok (.bipush 60, 2) := by decide +kernel
theorem dX9_trade_5 : decode cX9_trade 5 = .ok (.if_icmp .ge 16, 3) := by decide +kernel
theorem dX9_trade_8 : decode cX9_trade 8 = .ok (.aload_n 0, 1) := by decide +kernel
theorem dX9_trade_9 : decode cX9_trade 9 = .ok (.getfield 35, 3) := by decide +kernel
theorem dX9_trade_12 : decode cX9_trade 12 = .ok (.iload_n 3, 1) := by decide +kernel
theorem dX9_trade_13 : decode cX9_trade 13 = .ok (.iconst 0, 1) := by decide +kernel
theorem dX9_trade_14 : decode cX9_trade 14 = .ok (.bastore, 1) := by decide +kernel
theorem dX9_trade_15 : decode cX9_trade 15 = .ok (.iinc 3 1, 3) := by decide +kernel
theorem dX9_trade_18 : decode cX9_trade 18 = .ok (.goto (-16), 3) := by decide +kernel
theorem dX9_trade_21 : decode cX9_trade 21 = .ok (.iconst 0, 1) := by decide +kernel
theorem dX9_trade_22 : decode cX9_trade 22 = .ok (.istore_n 3, 1) := by decide +kernel
theorem dX9_trade_23 : decode cX9_trade 23 = .ok (.iload_n 3, 1) := by decide +kernel
theorem dX9_trade_24 : decode cX9_trade 24 = .ok (.aload_n 0, 1) := by decide +kernel
theorem dX9_trade_25 : decode cX9_trade 25 = .ok (.getfield 133, 3) := by decide +kernel
theorem dX9_trade_28 : decode cX9_trade 28 = .ok (.if_icmp .ge 91, 3) := by decide +kernel
theorem dX9_trade_31 : decode cX9_trade 31 = .ok (.aload_n 0, 1) := by decide +kernel
theorem dX9_trade_32 : decode cX9_trade 32 = .ok (.getfield 29, 3) := by decide +kernel
theorem dX9_trade_35 : decode cX9_trade 35 = .ok (.iload_n 3, 1) := by decide +kernel
theorem dX9_trade_36 : decode cX9_trade 36 = .ok (.iaload, 1) := by decide +kernel
theorem dX9_trade_37 : decode cX9_trade 37 = .ok (.invokestatic 111, 3) := by decide +kernel
theorem dX9_trade_40 : decode cX9_trade 40 = .ok (.istore 4, 2) := by decide +kernel
theorem dX9_trade_42 : decode cX9_trade 42 = .ok (.aload_n 1, 1) := by decide +kernel
theorem dX9_trade_43 : decode cX9_trade 43 = .ok (.iload 4, 2) := by decide +kernel
theorem dX9_trade_45 : decode cX9_trade 45 = .ok (.iconst 4, 1) := by decide +kernel
theorem dX9_trade_46 : decode cX9_trade 46 = .ok (.iadd, 1) := by decide +kernel
theorem dX9_trade_47 : decode cX9_trade 47 = .ok (.dup2, 1) := by decide +kernel
theorem dX9_trade_48 : decode cX9_trade 48 = .ok (.iaload, 1) := by decide +kernel
theorem dX9_trade_49 : decode cX9_trade 49 = .ok (.aload_n 0, 1) := by decide +kernel
theorem dX9_trade_50 : decode cX9_trade 50 = .ok (.getfield 139, 3) := by decide +kernel
theorem dX9_trade_53 : decode cX9_trade 53 = .ok (.isub, 1) := by decide +kernel
theorem dX9_trade_54 : decode cX9_trade 54 = .ok (.iastore, 1) := by decide +kernel
theorem dX9_trade_55 : decode cX9_trade 55 = .ok (.aload_n 1, 1) := by decide +kernel
theorem dX9_trade_56 : decode cX9_trade 56 = .ok (.iload 4, 2) := by decide +kernel
theorem dX9_trade_58 : decode cX9_trade 58 = .ok (.iconst 2, 1) := by decide +kernel
theorem dX9_trade_59 : decode cX9_trade 59 = .ok (.iadd, 1) := by decide +kernel
theorem dX9_trade_60 : decode cX9_trade 60 = .ok (.dup2, 1) := by decide +kernel
theorem dX9_trade_61 : decode cX9_trade 61 = .ok (.iaload, 1) := by decide +kernel
theorem dX9_trade_62 : decode cX9_trade 62 = .ok (.iconst 1, 1) := by decide +kernel
theorem dX9_trade_63 : decode cX9_trade 63 = .ok (.isub, 1) := by decide +kernel
theorem dX9_trade_64 : decode cX9_trade 64 = .ok (.iastore, 1) := by decide +kernel
theorem dX9_trade_65 : decode cX9_trade 65 = .ok (.aload_n 1, 1) := by decide +kernel
theorem dX9_trade_66 : decode cX9_trade 66 = .ok (.aload_n 1, 1) := by decide +kernel
theorem dX9_trade_67 : decode cX9_trade 67 = .ok (.aload_n 0, 1) := by decide +kernel
theorem dX9_trade_68 : decode cX9_trade 68 = .ok (.getfield 32, 3) := by decide +kernel
theorem dX9_trade_71 : decode cX9_trade 71 = .ok (.iload_n 3, 1) := by decide +kernel
theorem dX9_trade_72 : decode cX9_trade 72 = .ok (.iaload, 1) := by decide +kernel
theorem dX9_trade_73 : decode cX9_trade 73 = .ok (.invokestatic 89, 3) := by decide +kernel
theorem dX9_trade_76 : decode cX9_trade 76 = .ok (.iconst 1, 1) := by decide +kernel
theorem dX9_trade_77 : decode cX9_trade 77 = .ok (.iadd, 1) := by decide +kernel
theorem dX9_trade_78 : decode cX9_trade 78 = .ok (.iaload, 1) := by decide +kernel
theorem dX9_trade_79 : decode cX9_trade 79 = .ok (.invokestatic 100, 3) := by decide +kernel
theorem dX9_trade_82 : decode cX9_trade 82 = .ok (.iconst 5, 1) := by decide +kernel
theorem dX9_trade_83 : decode cX9_trade 83 = .ok (.iadd, 1) := by decide +kernel
theorem dX9_trade_84 : decode cX9_trade 84 = .ok (.dup2, 1) := by decide +kernel
theorem dX9_trade_85 : decode cX9_trade 85 = .ok (.iaload, 1) := by decide +kernel
theorem dX9_trade_86 : decode cX9_trade 86 = .ok (.aload_n 0, 1) := by decide +kernel
theorem dX9_trade_87 : decode cX9_trade 87 = .ok (.getfield 139, 3) := by decide +kernel
theorem dX9_trade_90 : decode cX9_trade 90 = .ok (.iadd, 1) := by decide +kernel
theorem dX9_trade_91 : decode cX9_trade 91 = .ok (.iastore, 1) := by decide +kernel
theorem dX9_trade_92 : decode cX9_trade 92 = .ok (.aload_n 1, 1) := by decide +kernel
theorem dX9_trade_93 : decode cX9_trade 93 = .ok (.iconst 4, 1) := by decide +kernel
theorem dX9_trade_94 : decode cX9_trade 94 = .ok (.dup2, 1) := by decide +kernel
theorem dX9_trade_95 : decode cX9_trade 95 = .ok (.iaload, 1) := by decide +kernel
theorem dX9_trade_96 : decode cX9_trade 96 = .ok (.iload_n 2, 1) := by decide +kernel
theorem dX9_trade_97 : decode cX9_trade 97 = .ok (.iconst 1, 1) := by decide +kernel
theorem dX9_trade_98 : decode cX9_trade 98 = .ok (.iadd, 1) := by decide +kernel
theorem dX9_trade_99 : decode cX9_trade 99 = .ok (.iadd, 1) := by decide +kernel
theorem dX9_trade_100 : decode cX9_trade 100 = .ok (.iastore, 1) := by decide +kernel
theorem dX9_trade_101 : decode cX9_trade 101 = .ok (.aload_n 0, 1) := by decide +kernel
theorem dX9_trade_102 : decode cX9_trade 102 = .ok (.getfield 35, 3) := by decide +kernel
theorem dX9_trade_105 : decode cX9_trade 105 = .ok (.aload_n 0, 1) := by decide +kernel
theorem dX9_trade_106 : decode cX9_trade 106 = .ok (.getfield 32, 3) := by decide +kernel
theorem dX9_trade_109 : decode cX9_trade 109 = .ok (.iload_n 3, 1) := by decide +kernel
theorem dX9_trade_110 : decode cX9_trade 110 = .ok (.iaload, 1) := by decide +kernel
theorem dX9_trade_111 : decode cX9_trade 111 = .ok (.iconst 1, 1) := by decide +kernel
theorem dX9_trade_112 : decode cX9_trade 112 = .ok (.bastore, 1) := by decide +kernel
theorem dX9_trade_113 : decode cX9_trade 113 = .ok (.iinc 3 1, 3) := by decide +kernel
theorem dX9_trade_116 : decode cX9_trade 116 = .ok (.goto (-93), 3) := by decide +kernel
theorem dX9_trade_119 : decode cX9_trade 119 = .ok (.bipush 59, 2) := by decide +kernel
theorem dX9_trade_121 : decode cX9_trade 121 = .ok (.istore_n 3, 1) := by decide +kernel
theorem dX9_trade_122 : decode cX9_trade 122 = .ok (.iload_n 3, 1) := by decide +kernel
theorem dX9_trade_123 : decode cX9_trade 123 = .ok (.ifCond .lt 27, 3) := by decide +kernel
theorem dX9_trade_126 : decode cX9_trade 126 = .ok (.aload_n 0, 1) := by decide +kernel
theorem dX9_trade_127 : decode cX9_trade 127 = .ok (.getfield 35, 3) := by decide +kernel
theorem dX9_trade_130 : decode cX9_trade 130 = .ok (.iload_n 3, 1) := by decide +kernel
theorem dX9_trade_131 : decode cX9_trade 131 = .ok (.baload, 1) := by decide +kernel
theorem dX9_trade_132 : decode cX9_trade 132 = .ok (.ifCond .eq 12, 3) := by decide +kernel
theorem dX9_trade_135 : decode cX9_trade 135 = .ok (.aload_n 1, 1) := by decide +kernel
theorem dX9_trade_136 : decode cX9_trade 136 = .ok (.iconst 3, 1) := by decide +kernel
theorem dX9_trade_137 : decode cX9_trade 137 = .ok (.bipush 110, 2) := by decide +kernel
theorem dX9_trade_139 : decode cX9_trade 139 = .ok (.iconst 3, 1) := by decide +kernel
theorem dX9_trade_140 : decode cX9_trade 140 = .ok (.iload_n 3, 1) := by decide +kernel
theorem dX9_trade_141 : decode cX9_trade 141 = .ok (.invokestatic 78, 3) := by decide +kernel
theorem dX9_trade_144 : decode cX9_trade 144 = .ok (.iinc 3 (-1), 3) := by decide +kernel
theorem dX9_trade_147 : decode cX9_trade 147 = .ok (.goto (-25), 3) := by decide +kernel
theorem dX9_trade_150 : decode cX9_trade 150 = .ok (.aload_n 1, 1) := by decide +kernel
theorem dX9_trade_151 : decode cX9_trade 151 = .ok (.bipush 11, 2) := by decide +kernel
theorem dX9_trade_153 : decode cX9_trade 153 = .ok (.dup2, 1) := by decide +kernel
theorem dX9_trade_154 : decode cX9_trade 154 = .ok (.iaload, 1) := by decide +kernel
theorem dX9_trade_155 : decode cX9_trade 155 = .ok (.aload_n 0, 1) := by decide +kernel
theorem dX9_trade_156 : decode cX9_trade 156 = .ok (.getfield 133, 3) := by decide +kernel
theorem dX9_trade_159 : decode cX9_trade 159 = .ok (.iadd, 1) := by decide +kernel
theorem dX9_trade_160 : decode cX9_trade 160 = .ok (.iastore, 1) := by decide +kernel
theorem dX9_trade_161 : decode cX9_trade 161 = .ok (.return_, 1) := by decide +kernel
theorem dX9_hold_0 : decode cX9_hold 0 = .ok (.aload_n 0, 1) := by decide +kernel
theorem dX9_hold_1 : decode cX9_hold 1 = .ok (.aload_n 1, 1) := by decide +kernel
theorem dX9_hold_2 : decode cX9_hold 2 = .ok (.iload_n 2, 1) := by decide +kernel
theorem dX9_hold_3 : decode cX9_hold 3 = .ok (.invokevirtual 142, 3) := by decide +kernel
theorem dX9_hold_6 : decode cX9_hold 6 = .ok (.aload_n 0, 1) := by decide +kernel
theorem dX9_hold_7 : decode cX9_hold 7 = .ok (.getfield 133, 3) := by decide +kernel
theorem dX9_hold_10 : decode cX9_hold 10 = .ok (.ifCond .le 19, 3) := by decide +kernel
theorem dX9_hold_13 : decode cX9_hold 13 = .ok (.aload_n 0, 1) := by decide +kernel
theorem dX9_hold_14 : decode cX9_hold 14 = .ok (.aload_n 1, 1) := by decide +kernel
theorem dX9_hold_15 : decode cX9_hold 15 = .ok (.iload_n 2, 1) := by decide +kernel
theorem dX9_hold_16 : decode cX9_hold 16 = .ok (.invokevirtual 145, 3) := by decide +kernel
theorem dX9_hold_19 : decode cX9_hold 19 = .ok (.aload_n 1, 1) := by decide +kernel
theorem dX9_hold_20 : decode cX9_hold 20 = .ok (.iconst 1, 1) := by decide +kernel
theorem dX9_hold_21 : decode cX9_hold 21 = .ok (.iload_n 2, 1) := by decide +kernel
theorem dX9_hold_22 : decode cX9_hold 22 = .ok (.aload_n 0, 1) := by decide +kernel
theorem dX9_hold_23 : decode cX9_hold 23 = .ok (.getfield 139, 3) := by decide +kernel
theorem dX9_hold_26 : decode cX9_hold 26 = .ok (.invokestatic 107, 3) := by decide +kernel
theorem dX9_hold_29 : decode cX9_hold 29 = .ok (.iconst 0, 1) := by decide +kernel
theorem dX9_hold_30 : decode cX9_hold 30 = .ok (.istore_n 3, 1) := by decide +kernel
theorem dX9_hold_31 : decode cX9_hold 31 = .ok (.iload_n 3, 1) := by decide +kernel
theorem dX9_hold_32 : decode cX9_hold 32 = .ok (.aload_n 1, 1) := by decide +kernel
theorem dX9_hold_33 : decode cX9_hold 33 = .ok (.iconst 2, 1) := by decide +kernel
theorem dX9_hold_34 : decode cX9_hold 34 = .ok (.iaload, 1) := by decide +kernel
theorem dX9_hold_35 : decode cX9_hold 35 = .ok (.if_icmp .ge 30, 3) := by decide +kernel
theorem dX9_hold_38 : decode cX9_hold 38 = .ok (.aload_n 1, 1) := by decide +kernel
theorem dX9_hold_39 : decode cX9_hold 39 = .ok (.iload_n 3, 1) := by decide +kernel
theorem dX9_hold_40 : decode cX9_hold 40 = .ok (.invokestatic 111, 3) := by decide +kernel
theorem dX9_hold_43 : decode cX9_hold 43 = .ok (.iconst 2, 1) := by decide +kernel
theorem dX9_hold_44 : decode cX9_hold 44 = .ok (.iadd, 1) := by decide +kernel
theorem dX9_hold_45 : decode cX9_hold 45 = .ok (.iaload, 1) := by decide +kernel
theorem dX9_hold_46 : decode cX9_hold 46 = .ok (.ifCond .ne 13, 3) := by decide +kernel
theorem dX9_hold_49 : decode cX9_hold 49 = .ok (.aload_n 0, 1) := by decide +kernel
theorem dX9_hold_50 : decode cX9_hold 50 = .ok (.aload_n 1, 1) := by decide +kernel
theorem dX9_hold_51 : decode cX9_hold 51 = .ok (.iload_n 3, 1) := by decide +kernel
theorem dX9_hold_52 : decode cX9_hold 52 = .ok (.iconst 0, 1) := by decide +kernel
theorem dX9_hold_53 : decode cX9_hold 53 = .ok (.invokevirtual 148, 3) := by decide +kernel
theorem dX9_hold_56 : decode cX9_hold 56 = .ok (.goto (-25), 3) := by decide +kernel
theorem dX9_hold_59 : decode cX9_hold 59 = .ok (.iinc 3 1, 3) := by decide +kernel
theorem dX9_hold_62 : decode cX9_hold 62 = .ok (.goto (-31), 3) := by decide +kernel
theorem dX9_hold_65 : decode cX9_hold 65 = .ok (.aload_n 0, 1) := by decide +kernel
theorem dX9_hold_66 : decode cX9_hold 66 = .ok (.getfield 133, 3) := by decide +kernel
theorem dX9_hold_69 : decode cX9_hold 69 = .ok (.ireturn, 1) := by decide +kernel
theorem dX9_bakeOn_0 : decode cX9_bakeOn 0 = .ok (.iconst 0, 1) := by decide +kernel
theorem dX9_bakeOn_1 : decode cX9_bakeOn 1 = .ok (.istore_n 1, 1) := by decide +kernel
theorem dX9_bakeOn_2 : decode cX9_bakeOn 2 = .ok (.iload_n 1, 1) := by decide +kernel
theorem dX9_bakeOn_3 : decode cX9_bakeOn 3 = .ok (.aload_n 0, 1) := by decide +kernel
theorem dX9_bakeOn_4 : decode cX9_bakeOn 4 = .ok (.iconst 1, 1) := by decide +kernel
theorem dX9_bakeOn_5 : decode cX9_bakeOn 5 = .ok (.iaload, 1) := by decide +kernel
theorem dX9_bakeOn_6 : decode cX9_bakeOn 6 = .ok (.if_icmp .ge 40, 3) := by decide +kernel
theorem dX9_bakeOn_9 : decode cX9_bakeOn 9 = .ok (.iload_n 1, 1) := by decide +kernel
theorem dX9_bakeOn_10 : decode cX9_bakeOn 10 = .ok (.invokestatic 100, 3) := by decide +kernel
theorem dX9_bakeOn_13 : decode cX9_bakeOn 13 = .ok (.iconst 4, 1) := by decide +kernel
theorem dX9_bakeOn_14 : decode cX9_bakeOn 14 = .ok (.iadd, 1) := by decide +kernel
theorem dX9_bakeOn_15 : decode cX9_bakeOn 15 = .ok (.istore_n 2, 1) := by decide +kernel
theorem dX9_bakeOn_16 : decode cX9_bakeOn 16 = .ok (.aload_n 0, 1) := by decide +kernel
theorem dX9_bakeOn_17 : decode cX9_bakeOn 17 = .ok (.iload_n 2, 1) := by decide +kernel
theorem dX9_bakeOn_18 : decode cX9_bakeOn 18 = .ok (.iaload, 1) := by decide +kernel
theorem dX9_bakeOn_19 : decode cX9_bakeOn 19 = .ok (.ifCond .le 21, 3) := by decide +kernel
theorem dX9_bakeOn_22 : decode cX9_bakeOn 22 = .ok (.aload_n 0, 1) := by decide +kernel
theorem dX9_bakeOn_23 : decode cX9_bakeOn 23 = .ok (.iload_n 2, 1) := by decide +kernel
theorem dX9_bakeOn_24 : decode cX9_bakeOn 24 = .ok (.dup2, 1) := by decide +kernel
theorem dX9_bakeOn_25 : decode cX9_bakeOn 25 = .ok (.iaload, 1) := by decide +kernel
theorem dX9_bakeOn_26 : decode cX9_bakeOn 26 = .ok (.iconst 1, 1) := by decide +kernel
theorem dX9_bakeOn_27 : decode cX9_bakeOn 27 = .ok (.isub, 1) := by decide +kernel
theorem dX9_bakeOn_28 : decode cX9_bakeOn 28 = .ok (.iastore, 1) := by decide +kernel
theorem dX9_bakeOn_29 : decode cX9_bakeOn 29 = .ok (.aload_n 0, 1) := by decide +kernel
theorem dX9_bakeOn_30 : decode cX9_bakeOn 30 = .ok (.iload_n 2, 1) := by decide +kernel
theorem dX9_bakeOn_31 : decode cX9_bakeOn 31 = .ok (.iaload, 1) := by decide +kernel
theorem dX9_bakeOn_32 : decode cX9_bakeOn 32 = .ok (.ifCond .ne 8, 3) := by decide +kernel
theorem dX9_bakeOn_35 : decode cX9_bakeOn 35 = .ok (.aload_n 0, 1) := by decide +kernel
theorem dX9_bakeOn_36 : decode cX9_bakeOn 36 = .ok (.iload_n 1, 1) := by decide +kernel
theorem dX9_bakeOn_37 : decode cX9_bakeOn 37 = .ok (.invokestatic 152, 3) := by decide +kernel
theorem dX9_bakeOn_40 : decode cX9_bakeOn 40 = .ok (.iinc 1 1, 3) := by decide +kernel
theorem dX9_bakeOn_43 : decode cX9_bakeOn 43 = .ok (.goto (-41), 3) := by decide +kernel
theorem dX9_bakeOn_46 : decode cX9_bakeOn 46 = .ok (.return_, 1) := by decide +kernel
theorem dX9_clear_0 : decode cX9_clear 0 = .ok (.iconst 0, 1) := by decide +kernel
theorem dX9_clear_1 : decode cX9_clear 1 = .ok (.istore_n 1, 1) := by decide +kernel
theorem dX9_clear_2 : decode cX9_clear 2 = .ok (.iload_n 1, 1) := by decide +kernel
theorem dX9_clear_3 : decode cX9_clear 3 = .ok (.aload_n 0, 1) := by decide +kernel
theorem dX9_clear_4 : decode cX9_clear 4 = .ok (.iconst 3, 1) := by decide +kernel
theorem dX9_clear_5 : decode cX9_clear 5 = .ok (.iaload, 1) := by decide +kernel
theorem dX9_clear_6 : decode cX9_clear 6 = .ok (.if_icmp .ge 65, 3) := by decide +kernel
theorem dX9_clear_9 : decode cX9_clear 9 = .ok (.aload_n 0, 1) := by decide +kernel
theorem dX9_clear_10 : decode cX9_clear 10 = .ok (.iload_n 1, 1) := by decide +kernel
theorem dX9_clear_11 : decode cX9_clear 11 = .ok (.invokestatic 123, 3) := by decide +kernel
theorem dX9_clear_14 : decode cX9_clear 14 = .ok (.ifCond .ne 51, 3) := by decide +kernel
theorem dX9_clear_17 : decode cX9_clear 17 = .ok (.aload_n 0, 1) := by decide +kernel
theorem dX9_clear_18 : decode cX9_clear 18 = .ok (.iconst 2, 1) := by decide +kernel
theorem dX9_clear_19 : decode cX9_clear 19 = .ok (.aload_n 0, 1) := by decide +kernel
theorem dX9_clear_20 : decode cX9_clear 20 = .ok (.iload_n 1, 1) := by decide +kernel
theorem dX9_clear_21 : decode cX9_clear 21 = .ok (.invokestatic 89, 3) := by decide +kernel
theorem dX9_clear_24 : decode cX9_clear 24 = .ok (.iconst 0, 1) := by decide +kernel
theorem dX9_clear_25 : decode cX9_clear 25 = .ok (.iadd, 1) := by decide +kernel
theorem dX9_clear_26 : decode cX9_clear 26 = .ok (.iaload, 1) := by decide +kernel
theorem dX9_clear_27 : decode cX9_clear 27 = .ok (.aload_n 0, 1) := by decide +kernel
theorem dX9_clear_28 : decode cX9_clear 28 = .ok (.iload_n 1, 1) := by decide +kernel
theorem dX9_clear_29 : decode cX9_clear 29 = .ok (.invokestatic 89, 3) := by decide +kernel
theorem dX9_clear_32 : decode cX9_clear 32 = .ok (.iconst 1, 1) := by decide +kernel
theorem dX9_clear_33 : decode cX9_clear 33 = .ok (.iadd, 1) := by decide +kernel
theorem dX9_clear_34 : decode cX9_clear 34 = .ok (.iaload, 1) := by decide +kernel
theorem dX9_clear_35 : decode cX9_clear 35 = .ok (.invokestatic 107, 3) := by decide +kernel
theorem dX9_clear_38 : decode cX9_clear 38 = .ok (.aload_n 0, 1) := by decide +kernel
theorem dX9_clear_39 : decode cX9_clear 39 = .ok (.iconst 3, 1) := by decide +kernel
theorem dX9_clear_40 : decode cX9_clear 40 = .ok (.bipush 110, 2) := by decide +kernel
theorem dX9_clear_42 : decode cX9_clear 42 = .ok (.iconst 3, 1) := by decide +kernel
theorem dX9_clear_43 : decode cX9_clear 43 = .ok (.iload_n 1, 1) := by decide +kernel
theorem dX9_clear_44 : decode cX9_clear 44 = .ok (.invokestatic 78, 3) := by decide +kernel
theorem dX9_clear_47 : decode cX9_clear 47 = .ok (.aload_n 0, 1) := by decide +kernel
theorem dX9_clear_48 : decode cX9_clear 48 = .ok (.iconst 4, 1) := by decide +kernel
theorem dX9_clear_49 : decode cX9_clear 49 = .ok (.dup2, 1) := by decide +kernel
theorem dX9_clear_50 : decode cX9_clear 50 = .ok (.iaload, 1) := by decide +kernel
theorem dX9_clear_51 : decode cX9_clear 51 = .ok (.iconst 5, 1) := by decide +kernel
theorem dX9_clear_52 : decode cX9_clear 52 = .ok (.iadd, 1) := by decide +kernel
theorem dX9_clear_53 : decode cX9_clear 53 = .ok (.iastore, 1) := by decide +kernel
theorem dX9_clear_54 : decode cX9_clear 54 = .ok (.aload_n 0, 1) := by decide +kernel
theorem dX9_clear_55 : decode cX9_clear 55 = .ok (.bipush 12, 2) := by decide +kernel
theorem dX9_clear_57 : decode cX9_clear 57 = .ok (.dup2, 1) := by decide +kernel
theorem dX9_clear_58 : decode cX9_clear 58 = .ok (.iaload, 1) := by decide +kernel
theorem dX9_clear_59 : decode cX9_clear 59 = .ok (.iconst 1, 1) := by decide +kernel
theorem dX9_clear_60 : decode cX9_clear 60 = .ok (.iadd, 1) := by decide +kernel
theorem dX9_clear_61 : decode cX9_clear 61 = .ok (.iastore, 1) := by decide +kernel
theorem dX9_clear_62 : decode cX9_clear 62 = .ok (.goto (-60), 3) := by decide +kernel
theorem dX9_clear_65 : decode cX9_clear 65 = .ok (.iinc 1 1, 3) := by decide +kernel
theorem dX9_clear_68 : decode cX9_clear 68 = .ok (.goto (-66), 3) := by decide +kernel
theorem dX9_clear_71 : decode cX9_clear 71 = .ok (.return_, 1) := by decide +kernel
theorem dX9_eat_0 : decode cX9_eat 0 = .ok (.aload_n 0, 1) := by decide +kernel
theorem dX9_eat_1 : decode cX9_eat 1 = .ok (.iconst 4, 1) := by decide +kernel
theorem dX9_eat_2 : decode cX9_eat 2 = .ok (.aload_n 0, 1) := by decide +kernel
theorem dX9_eat_3 : decode cX9_eat 3 = .ok (.iconst 4, 1) := by decide +kernel
theorem dX9_eat_4 : decode cX9_eat 4 = .ok (.iaload, 1) := by decide +kernel
theorem dX9_eat_5 : decode cX9_eat 5 = .ok (.iconst 3, 1) := by decide +kernel
theorem dX9_eat_6 : decode cX9_eat 6 = .ok (.aload_n 0, 1) := by decide +kernel
theorem dX9_eat_7 : decode cX9_eat 7 = .ok (.iconst 5, 1) := by decide +kernel
theorem dX9_eat_8 : decode cX9_eat 8 = .ok (.iaload, 1) := by decide +kernel
theorem dX9_eat_9 : decode cX9_eat 9 = .ok (.imul, 1) := by decide +kernel
theorem dX9_eat_10 : decode cX9_eat 10 = .ok (.isub, 1) := by decide +kernel
theorem dX9_eat_11 : decode cX9_eat 11 = .ok (.invokestatic 86, 3) := by decide +kernel
theorem dX9_eat_14 : decode cX9_eat 14 = .ok (.iastore, 1) := by decide +kernel
theorem dX9_eat_15 : decode cX9_eat 15 = .ok (.aload_n 0, 1) := by decide +kernel
theorem dX9_eat_16 : decode cX9_eat 16 = .ok (.iconst 4, 1) := by decide +kernel
theorem dX9_eat_17 : decode cX9_eat 17 = .ok (.iaload, 1) := by decide +kernel
theorem dX9_eat_18 : decode cX9_eat 18 = .ok (.bipush 20, 2) := by decide +kernel
theorem dX9_eat_20 : decode cX9_eat 20 = .ok (.if_icmp .le 25, 3) := by decide +kernel
theorem dX9_eat_23 : decode cX9_eat 23 = .ok (.aload_n 0, 1) := by decide +kernel
theorem dX9_eat_24 : decode cX9_eat 24 = .ok (.iconst 5, 1) := by decide +kernel
theorem dX9_eat_25 : decode cX9_eat 25 = .ok (.dup2, 1) := by decide +kernel
theorem dX9_eat_26 : decode cX9_eat 26 = .ok (.iaload, 1) := by decide +kernel
theorem dX9_eat_27 : decode cX9_eat 27 = .ok (.aload_n 0, 1) := by decide +kernel
theorem dX9_eat_28 : decode cX9_eat 28 = .ok (.iconst 5, 1) := by decide +kernel
theorem dX9_eat_29 : decode cX9_eat 29 = .ok (.iaload, 1) := by decide +kernel
theorem dX9_eat_30 : decode cX9_eat 30 = .ok (.bipush 9, 2) := by decide +kernel
theorem dX9_eat_32 : decode cX9_eat 32 = .ok (.if_icmp .ge 7, 3) := by decide +kernel
theorem dX9_eat_35 : decode cX9_eat 35 = .ok (.iconst 1, 1) := by decide +kernel
theorem dX9_eat_36 : decode cX9_eat 36 = .ok (.goto 4, 3) := by decide +kernel
theorem dX9_eat_39 : decode cX9_eat 39 = .ok (.iconst 0, 1) := by decide +kernel
theorem dX9_eat_40 : decode cX9_eat 40 = .ok (.iadd, 1) := by decide +kernel
theorem dX9_eat_41 : decode cX9_eat 41 = .ok (.iastore, 1) := by decide +kernel
theorem dX9_eat_42 : decode cX9_eat 42 = .ok (.goto 26, 3) := by decide +kernel
theorem dX9_eat_45 : decode cX9_eat 45 = .ok (.aload_n 0, 1) := by decide +kernel
theorem dX9_eat_46 : decode cX9_eat 46 = .ok (.iconst 4, 1) := by decide +kernel
theorem dX9_eat_47 : decode cX9_eat 47 = .ok (.iaload, 1) := by decide +kernel
theorem dX9_eat_48 : decode cX9_eat 48 = .ok (.ifCond .ne 20, 3) := by decide +kernel
theorem dX9_eat_51 : decode cX9_eat 51 = .ok (.aload_n 0, 1) := by decide +kernel
theorem dX9_eat_52 : decode cX9_eat 52 = .ok (.iconst 5, 1) := by decide +kernel
theorem dX9_eat_53 : decode cX9_eat 53 = .ok (.dup2, 1) := by decide +kernel
theorem dX9_eat_54 : decode cX9_eat 54 = .ok (.iaload, 1) := by decide +kernel
theorem dX9_eat_55 : decode cX9_eat 55 = .ok (.aload_n 0, 1) := by decide +kernel
theorem dX9_eat_56 : decode cX9_eat 56 = .ok (.iconst 5, 1) := by decide +kernel
theorem dX9_eat_57 : decode cX9_eat 57 = .ok (.iaload, 1) := by decide +kernel
theorem dX9_eat_58 : decode cX9_eat 58 = .ok (.ifCond .le 7, 3) := by decide +kernel
theorem dX9_eat_61 : decode cX9_eat 61 = .ok (.iconst 1, 1) := by decide +kernel
theorem dX9_eat_62 : decode cX9_eat 62 = .ok (.goto 4, 3) := by decide +kernel
theorem dX9_eat_65 : decode cX9_eat 65 = .ok (.iconst 0, 1) := by decide +kernel
theorem dX9_eat_66 : decode cX9_eat 66 = .ok (.isub, 1) := by decide +kernel
theorem dX9_eat_67 : decode cX9_eat 67 = .ok (.iastore, 1) := by decide +kernel
theorem dX9_eat_68 : decode cX9_eat 68 = .ok (.return_, 1) := by decide +kernel
theorem dX9_passHour_0 : decode cX9_passHour 0 = .ok (.aload_n 1, 1) := by decide +kernel
theorem dX9_passHour_1 : decode cX9_passHour 1 = .ok (.iconst 0, 1) := by decide +kernel
theorem dX9_passHour_2 : decode cX9_passHour 2 = .ok (.dup2, 1) := by decide +kernel
theorem dX9_passHour_3 : decode cX9_passHour 3 = .ok (.iaload, 1) := by decide +kernel
theorem dX9_passHour_4 : decode cX9_passHour 4 = .ok (.iconst 1, 1) := by decide +kernel
theorem dX9_passHour_5 : decode cX9_passHour 5 = .ok (.iadd, 1) := by decide +kernel
theorem dX9_passHour_6 : decode cX9_passHour 6 = .ok (.iastore, 1) := by decide +kernel
theorem dX9_passHour_7 : decode cX9_passHour 7 = .ok (.aload_n 1, 1) := by decide +kernel
theorem dX9_passHour_8 : decode cX9_passHour 8 = .ok (.invokestatic 155, 3) := by decide +kernel
theorem dX9_passHour_11 : decode cX9_passHour 11 = .ok (.aload_n 1, 1) := by decide +kernel
theorem dX9_passHour_12 : decode cX9_passHour 12 = .ok (.invokestatic 159, 3) := by decide +kernel
theorem dX9_passHour_15 : decode cX9_passHour 15 = .ok (.aload_n 1, 1) := by decide +kernel
theorem dX9_passHour_16 : decode cX9_passHour 16 = .ok (.invokestatic 162, 3) := by decide +kernel
theorem dX9_passHour_19 : decode cX9_passHour 19 = .ok (.iconst 0, 1) := by decide +kernel
theorem dX9_passHour_20 : decode cX9_passHour 20 = .ok (.istore_n 2, 1) := by decide +kernel
theorem dX9_passHour_21 : decode cX9_passHour 21 = .ok (.iload_n 2, 1) := by decide +kernel
theorem dX9_passHour_22 : decode cX9_passHour 22 = .ok (.aload_n 1, 1) := by decide +kernel
theorem dX9_passHour_23 : decode cX9_passHour 23 = .ok (.iconst 2, 1) := by decide +kernel
theorem dX9_passHour_24 : decode cX9_passHour 24 = .ok (.iaload, 1) := by decide +kernel
theorem dX9_passHour_25 : decode cX9_passHour 25 = .ok (.if_icmp .ge 42, 3) := by decide +kernel
theorem dX9_passHour_28 : decode cX9_passHour 28 = .ok (.aload_n 1, 1) := by decide +kernel
theorem dX9_passHour_29 : decode cX9_passHour 29 = .ok (.iload_n 2, 1) := by decide +kernel
theorem dX9_passHour_30 : decode cX9_passHour 30 = .ok (.invokestatic 111, 3) := by decide +kernel
theorem dX9_passHour_33 : decode cX9_passHour 33 = .ok (.iconst 5, 1) := by decide +kernel
theorem dX9_passHour_34 : decode cX9_passHour 34 = .ok (.iadd, 1) := by decide +kernel
theorem dX9_passHour_35 : decode cX9_passHour 35 = .ok (.dup2, 1) := by decide +kernel
theorem dX9_passHour_36 : decode cX9_passHour 36 = .ok (.iaload, 1) := by decide +kernel
theorem dX9_passHour_37 : decode cX9_passHour 37 = .ok (.iconst 1, 1) := by decide +kernel
theorem dX9_passHour_38 : decode cX9_passHour 38 = .ok (.isub, 1) := by decide +kernel
theorem dX9_passHour_39 : decode cX9_passHour 39 = .ok (.iastore, 1) := by decide +kernel
theorem dX9_passHour_40 : decode cX9_passHour 40 = .ok (.aload_n 1, 1) := by decide +kernel
theorem dX9_passHour_41 : decode cX9_passHour 41 = .ok (.iload_n 2, 1) := by decide +kernel
theorem dX9_passHour_42 : decode cX9_passHour 42 = .ok (.invokestatic 111, 3) := by decide +kernel
theorem dX9_passHour_45 : decode cX9_passHour 45 = .ok (.iconst 5, 1) := by decide +kernel
theorem dX9_passHour_46 : decode cX9_passHour 46 = .ok (.iadd, 1) := by decide +kernel
theorem dX9_passHour_47 : decode cX9_passHour 47 = .ok (.iaload, 1) := by decide +kernel
theorem dX9_passHour_48 : decode cX9_passHour 48 = .ok (.ifCond .ne 13, 3) := by decide +kernel
theorem dX9_passHour_51 : decode cX9_passHour 51 = .ok (.aload_n 0, 1) := by decide +kernel
theorem dX9_passHour_52 : decode cX9_passHour 52 = .ok (.aload_n 1, 1) := by decide +kernel
theorem dX9_passHour_53 : decode cX9_passHour 53 = .ok (.iload_n 2, 1) := by decide +kernel
theorem dX9_passHour_54 : decode cX9_passHour 54 = .ok (.iconst 1, 1) := by decide +kernel
theorem dX9_passHour_55 : decode cX9_passHour 55 = .ok (.invokevirtual 148, 3) := by decide +kernel
theorem dX9_passHour_58 : decode cX9_passHour 58 = .ok (.goto (-37), 3) := by decide +kernel
theorem dX9_passHour_61 : decode cX9_passHour 61 = .ok (.iinc 2 1, 3) := by decide +kernel
theorem dX9_passHour_64 : decode cX9_passHour 64 = .ok (.goto (-43), 3) := by decide +kernel
theorem dX9_passHour_67 : decode cX9_passHour 67 = .ok (.return_, 1) := by decide +kernel
theorem dX9_passMany_0 : decode cX9_passMany 0 = .ok (.iconst 0, 1) := by decide +kernel
theorem dX9_passMany_1 : decode cX9_passMany 1 = .ok (.istore_n 3, 1) := by decide +kernel
theorem dX9_passMany_2 : decode cX9_passMany 2 = .ok (.iload_n 3, 1) := by decide +kernel
theorem dX9_passMany_3 : decode cX9_passMany 3 = .ok (.iload_n 2, 1) := by decide +kernel
theorem dX9_passMany_4 : decode cX9_passMany 4 = .ok (.if_icmp .ge 14, 3) := by decide +kernel
theorem dX9_passMany_7 : decode cX9_passMany 7 = .ok (.aload_n 0, 1) := by decide +kernel
theorem dX9_passMany_8 : decode cX9_passMany 8 = .ok (.aload_n 1, 1) := by decide +kernel
theorem dX9_passMany_9 : decode cX9_passMany 9 = .ok (.invokevirtual 165, 3) := by decide +kernel
theorem dX9_passMany_12 : decode cX9_passMany 12 = .ok (.iinc 3 1, 3) := by decide +kernel
theorem dX9_passMany_15 : decode cX9_passMany 15 = .ok (.goto (-13), 3) := by decide +kernel
theorem dX9_passMany_18 : decode cX9_passMany 18 = .ok (.return_, 1) := by decide +kernel
theorem dX9_join_0 : decode cX9_join 0 = .ok (.aload_n 0, 1) := by decide +kernel
theorem dX9_join_1 : decode cX9_join 1 = .ok (.iconst 2, 1) := by decide +kernel
theorem dX9_join_2 : decode cX9_join 2 = .ok (.iaload, 1) := by decide +kernel
theorem dX9_join_3 : decode cX9_join 3 = .ok (.invokestatic 111, 3) := by decide +kernel
theorem dX9_join_6 : decode cX9_join 6 = .ok (.istore 7, 2) := by decide +kernel
theorem dX9_join_8 : decode cX9_join 8 = .ok (.aload_n 0, 1) := by decide +kernel
theorem dX9_join_9 : decode cX9_join 9 = .ok (.iload 7, 2) := by decide +kernel
theorem dX9_join_11 : decode cX9_join 11 = .ok (.iconst 0, 1) := by decide +kernel
theorem dX9_join_12 : decode cX9_join 12 = .ok (.iadd, 1) := by decide +kernel
theorem dX9_join_13 : decode cX9_join 13 = .ok (.iload_n 1, 1) := by decide +kernel
theorem dX9_join_14 : decode cX9_join 14 = .ok (.iastore, 1) := by decide +kernel
theorem dX9_join_15 : decode cX9_join 15 = .ok (.aload_n 0, 1) := by decide +kernel
theorem dX9_join_16 : decode cX9_join 16 = .ok (.iload 7, 2) := by decide +kernel
theorem dX9_join_18 : decode cX9_join 18 = .ok (.iconst 1, 1) := by decide +kernel
theorem dX9_join_19 : decode cX9_join 19 = .ok (.iadd, 1) := by decide +kernel
theorem dX9_join_20 : decode cX9_join 20 = .ok (.iload_n 2, 1) := by decide +kernel
theorem dX9_join_21 : decode cX9_join 21 = .ok (.iastore, 1) := by decide +kernel
theorem dX9_join_22 : decode cX9_join 22 = .ok (.aload_n 0, 1) := by decide +kernel
theorem dX9_join_23 : decode cX9_join 23 = .ok (.iload 7, 2) := by decide +kernel
theorem dX9_join_25 : decode cX9_join 25 = .ok (.iconst 2, 1) := by decide +kernel
theorem dX9_join_26 : decode cX9_join 26 = .ok (.iadd, 1) := by decide +kernel
theorem dX9_join_27 : decode cX9_join 27 = .ok (.iload_n 3, 1) := by decide +kernel
theorem dX9_join_28 : decode cX9_join 28 = .ok (.iastore, 1) := by decide +kernel
theorem dX9_join_29 : decode cX9_join 29 = .ok (.aload_n 0, 1) := by decide +kernel
theorem dX9_join_30 : decode cX9_join 30 = .ok (.iload 7, 2) := by decide +kernel
theorem dX9_join_32 : decode cX9_join 32 = .ok (.iconst 3, 1) := by decide +kernel
theorem dX9_join_33 : decode cX9_join 33 = .ok (.iadd, 1) := by decide +kernel
theorem dX9_join_34 : decode cX9_join 34 = .ok (.iload 4, 2) := by decide +kernel
theorem dX9_join_36 : decode cX9_join 36 = .ok (.iastore, 1) := by decide +kernel
theorem dX9_join_37 : decode cX9_join 37 = .ok (.aload_n 0, 1) := by decide +kernel
theorem dX9_join_38 : decode cX9_join 38 = .ok (.iload 7, 2) := by decide +kernel
theorem dX9_join_40 : decode cX9_join 40 = .ok (.iconst 4, 1) := by decide +kernel
theorem dX9_join_41 : decode cX9_join 41 = .ok (.iadd, 1) := by decide +kernel
theorem dX9_join_42 : decode cX9_join 42 = .ok (.iload 5, 2) := by decide +kernel
theorem dX9_join_44 : decode cX9_join 44 = .ok (.iastore, 1) := by decide +kernel
theorem dX9_join_45 : decode cX9_join 45 = .ok (.aload_n 0, 1) := by decide +kernel
theorem dX9_join_46 : decode cX9_join 46 = .ok (.iload 7, 2) := by decide +kernel
theorem dX9_join_48 : decode cX9_join 48 = .ok (.iconst 5, 1) := by decide +kernel
theorem dX9_join_49 : decode cX9_join 49 = .ok (.iadd, 1) := by decide +kernel
theorem dX9_join_50 : decode cX9_join 50 = .ok (.iload 6, 2) := by decide +kernel
theorem dX9_join_52 : decode cX9_join 52 = .ok (.iastore, 1) := by decide +kernel
theorem dX9_join_53 : decode cX9_join 53 = .ok (.aload_n 0, 1) := by decide +kernel
theorem dX9_join_54 : decode cX9_join 54 = .ok (.iload 7, 2) := by decide +kernel
theorem dX9_join_56 : decode cX9_join 56 = .ok (.bipush 6, 2) := by decide +kernel
theorem dX9_join_58 : decode cX9_join 58 = .ok (.iadd, 1) := by decide +kernel
theorem dX9_join_59 : decode cX9_join 59 = .ok (.aload_n 0, 1) := by decide +kernel
theorem dX9_join_60 : decode cX9_join 60 = .ok (.bipush 6, 2) := by decide +kernel
theorem dX9_join_62 : decode cX9_join 62 = .ok (.iaload, 1) := by decide +kernel
theorem dX9_join_63 : decode cX9_join 63 = .ok (.iastore, 1) := by decide +kernel
theorem dX9_join_64 : decode cX9_join 64 = .ok (.aload_n 0, 1) := by decide +kernel
theorem dX9_join_65 : decode cX9_join 65 = .ok (.iconst 2, 1) := by decide +kernel
theorem dX9_join_66 : decode cX9_join 66 = .ok (.dup2, 1) := by decide +kernel
theorem dX9_join_67 : decode cX9_join 67 = .ok (.iaload, 1) := by decide +kernel
theorem dX9_join_68 : decode cX9_join 68 = .ok (.iconst 1, 1) := by decide +kernel
theorem dX9_join_69 : decode cX9_join 69 = .ok (.iadd, 1) := by decide +kernel
theorem dX9_join_70 : decode cX9_join 70 = .ok (.iastore, 1) := by decide +kernel
theorem dX9_join_71 : decode cX9_join 71 = .ok (.aload_n 0, 1) := by decide +kernel
theorem dX9_join_72 : decode cX9_join 72 = .ok (.bipush 6, 2) := by decide +kernel
theorem dX9_join_74 : decode cX9_join 74 = .ok (.dup2, 1) := by decide +kernel
theorem dX9_join_75 : decode cX9_join 75 = .ok (.iaload, 1) := by decide +kernel
theorem dX9_join_76 : decode cX9_join 76 = .ok (.iconst 1, 1) := by decide +kernel
theorem dX9_join_77 : decode cX9_join 77 = .ok (.iadd, 1) := by decide +kernel
theorem dX9_join_78 : decode cX9_join 78 = .ok (.iastore, 1) := by decide +kernel
theorem dX9_join_79 : decode cX9_join 79 = .ok (.aload_n 0, 1) := by decide +kernel
theorem dX9_join_80 : decode cX9_join 80 = .ok (.bipush 8, 2) := by decide +kernel
theorem dX9_join_82 : decode cX9_join 82 = .ok (.dup2, 1) := by decide +kernel
theorem dX9_join_83 : decode cX9_join 83 = .ok (.iaload, 1) := by decide +kernel
theorem dX9_join_84 : decode cX9_join 84 = .ok (.iload 5, 2) := by decide +kernel
theorem dX9_join_86 : decode cX9_join 86 = .ok (.iadd, 1) := by decide +kernel
theorem dX9_join_87 : decode cX9_join 87 = .ok (.iastore, 1) := by decide +kernel
theorem dX9_join_88 : decode cX9_join 88 = .ok (.aload_n 0, 1) := by decide +kernel
theorem dX9_join_89 : decode cX9_join 89 = .ok (.bipush 6, 2) := by decide +kernel
theorem dX9_join_91 : decode cX9_join 91 = .ok (.iaload, 1) := by decide +kernel
theorem dX9_join_92 : decode cX9_join 92 = .ok (.iconst 1, 1) := by decide +kernel
theorem dX9_join_93 : decode cX9_join 93 = .ok (.isub, 1) := by decide +kernel
theorem dX9_join_94 : decode cX9_join 94 = .ok (.ireturn, 1) := by decide +kernel
theorem dX9_appendWord_0 : decode cX9_appendWord 0 = .ok (.bipush 24, 2) := by decide +kernel
theorem dX9_appendWord_2 : decode cX9_appendWord 2 = .ok (.istore_n 2, 1) := by decide +kernel
theorem dX9_appendWord_3 : decode cX9_appendWord 3 = .ok (.iload_n 2, 1) := by decide +kernel
theorem dX9_appendWord_4 : decode cX9_appendWord 4 = .ok (.ifCond .lt 35, 3) := by decide +kernel
theorem dX9_appendWord_7 : decode cX9_appendWord 7 = .ok (.aload_n 0, 1) := by decide +kernel
theorem dX9_appendWord_8 : decode cX9_appendWord 8 = .ok (.getfield 38, 3) := by decide +kernel
theorem dX9_appendWord_11 : decode cX9_appendWord 11 = .ok (.aload_n 0, 1) := by decide +kernel
theorem dX9_appendWord_12 : decode cX9_appendWord 12 = .ok (.getfield 58, 3) := by decide +kernel
theorem dX9_appendWord_15 : decode cX9_appendWord 15 = .ok (.iload_n 1, 1) := by decide +kernel
theorem dX9_appendWord_16 : decode cX9_appendWord 16 = .ok (.iload_n 2, 1) := by decide +kernel
theorem dX9_appendWord_17 : decode cX9_appendWord 17 = .ok (.ishr, 1) := by decide +kernel
theorem dX9_appendWord_18 : decode cX9_appendWord 18 = .ok (.sipush 255, 3) := by decide +kernel
theorem dX9_appendWord_21 : decode cX9_appendWord 21 = .ok (.iand, 1) := by decide +kernel
theorem dX9_appendWord_22 : decode cX9_appendWord 22 = .ok (.iastore, 1) := by decide +kernel
theorem dX9_appendWord_23 : decode cX9_appendWord 23 = .ok (.aload_n 0, 1) := by decide +kernel
theorem dX9_appendWord_24 : decode cX9_appendWord 24 = .ok (.dup, 1) := by decide +kernel
theorem dX9_appendWord_25 : decode cX9_appendWord 25 = .ok (.getfield 58, 3) := by decide +kernel
theorem dX9_appendWord_28 : decode cX9_appendWord 28 = .ok (.iconst 1, 1) := by decide +kernel
theorem dX9_appendWord_29 : decode cX9_appendWord 29 = .ok (.iadd, 1) := by decide +kernel
theorem dX9_appendWord_30 : decode cX9_appendWord 30 = .ok (.putfield 58, 3) := by decide +kernel
theorem dX9_appendWord_33 : decode cX9_appendWord 33 = .ok (.iinc 2 (-8), 3) := by decide +kernel
theorem dX9_appendWord_36 : decode cX9_appendWord 36 = .ok (.goto (-33), 3) := by decide +kernel
theorem dX9_appendWord_39 : decode cX9_appendWord 39 = .ok (.return_, 1) := by decide +kernel
theorem dX9_appendInput_0 : decode cX9_appendInput 0 = .ok (.aload_n 0, 1) := by decide +kernel
theorem dX9_appendInput_1 : decode cX9_appendInput 1 = .ok (.iconst 0, 1) := by decide +kernel
theorem dX9_appendInput_2 : decode cX9_appendInput 2 = .ok (.putfield 75, 3) := by decide +kernel
theorem dX9_appendInput_5 : decode cX9_appendInput 5 = .ok (.aload_n 0, 1) := by decide +kernel
theorem dX9_appendInput_6 : decode cX9_appendInput 6 = .ok (.aload_n 0, 1) := by decide +kernel
theorem dX9_appendInput_7 : decode cX9_appendInput 7 = .ok (.getfield 58, 3) := by decide +kernel
theorem dX9_appendInput_10 : decode cX9_appendInput 10 = .ok (.bipush 20, 2) := by decide +kernel
theorem dX9_appendInput_12 : decode cX9_appendInput 12 = .ok (.iadd, 1) := by decide +kernel
theorem dX9_appendInput_13 : decode cX9_appendInput 13 = .ok (.sipush 600, 3) := by decide +kernel
theorem dX9_appendInput_16 : decode cX9_appendInput 16 = .ok (.if_icmp .le 7, 3) := by decide +kernel
theorem dX9_appendInput_19 : decode cX9_appendInput 19 = .ok (.iconst 1, 1) := by decide +kernel
theorem dX9_appendInput_20 : decode cX9_appendInput 20 = .ok (.goto 4, 3) := by decide +kernel
theorem dX9_appendInput_23 : decode cX9_appendInput 23 = .ok (.iconst 0, 1) := by decide +kernel
theorem dX9_appendInput_24 : decode cX9_appendInput 24 = .ok (.iconst 1, 1) := by decide +kernel
theorem dX9_appendInput_25 : decode cX9_appendInput 25 = .ok (.invokevirtual 168, 3) := by decide +kernel
theorem dX9_appendInput_28 : decode cX9_appendInput 28 = .ok (.ifCond .eq 5, 3) := by decide +kernel
theorem dX9_appendInput_31 : decode cX9_appendInput 31 = .ok (.iconst 0, 1) := by decide +kernel
theorem dX9_appendInput_32 : decode cX9_appendInput 32 = .ok (.ireturn, 1) := by decide +kernel
theorem dX9_appendInput_33 : decode cX9_appendInput 33 = .ok (.aload_n 0, 1) := by decide +kernel
theorem dX9_appendInput_34 : decode cX9_appendInput 34 = .ok (.iload_n 1, 1) := by decide +kernel
theorem dX9_appendInput_35 : decode cX9_appendInput 35 = .ok (.invokevirtual 172, 3) := by decide +kernel
theorem dX9_appendInput_38 : decode cX9_appendInput 38 = .ok (.aload_n 0, 1) := by decide +kernel
theorem dX9_appendInput_39 : decode cX9_appendInput 39 = .ok (.iload_n 2, 1) := by decide +kernel
theorem dX9_appendInput_40 : decode cX9_appendInput 40 = .ok (.invokevirtual 172, 3) := by decide +kernel
theorem dX9_appendInput_43 : decode cX9_appendInput 43 = .ok (.aload_n 0, 1) := by decide +kernel
theorem dX9_appendInput_44 : decode cX9_appendInput 44 = .ok (.iload_n 3, 1) := by decide +kernel
theorem dX9_appendInput_45 : decode cX9_appendInput 45 = .ok (.invokevirtual 172, 3) := by decide +kernel
theorem dX9_appendInput_48 : decode cX9_appendInput 48 = .ok (.aload_n 0, 1) := by decide +kernel
theorem dX9_appendInput_49 : decode cX9_appendInput 49 = .ok (.iload 4, 2) := by decide +kernel
theorem dX9_appendInput_51 : decode cX9_appendInput 51 = .ok (.invokevirtual 172, 3) := by decide +kernel
theorem dX9_appendInput_54 : decode cX9_appendInput 54 = .ok (.aload_n 0, 1) := by decide +kernel
theorem dX9_appendInput_55 : decode cX9_appendInput 55 = .ok (.iload 5, 2) := by decide +kernel
theorem dX9_appendInput_57 : decode cX9_appendInput 57 = .ok (.invokevirtual 172, 3) := by decide +kernel
theorem dX9_appendInput_60 : decode cX9_appendInput 60 = .ok (.aload_n 0, 1) := by decide +kernel
theorem dX9_appendInput_61 : decode cX9_appendInput 61 = .ok (.getfield 58, 3) := by decide +kernel
theorem dX9_appendInput_64 : decode cX9_appendInput 64 = .ok (.ireturn, 1) := by decide +kernel
theorem dX9_truncateInput_0 : decode cX9_truncateInput 0 = .ok (.aload_n 0, 1) := by decide +kernel
theorem dX9_truncateInput_1 : decode cX9_truncateInput 1 = .ok (.iload_n 1, 1) := by decide +kernel
theorem dX9_truncateInput_2 : decode cX9_truncateInput 2 = .ok (.iconst 0, 1) := by decide +kernel
theorem dX9_truncateInput_3 : decode cX9_truncateInput 3 = .ok (.aload_n 0, 1) := by decide +kernel
theorem dX9_truncateInput_4 : decode cX9_truncateInput 4 = .ok (.getfield 58, 3) := by decide +kernel
theorem dX9_truncateInput_7 : decode cX9_truncateInput 7 = .ok (.invokevirtual 176, 3) := by decide +kernel
theorem dX9_truncateInput_10 : decode cX9_truncateInput 10 = .ok (.ifCond .eq 5, 3) := by decide +kernel
theorem dX9_truncateInput_13 : decode cX9_truncateInput 13 = .ok (.iconst 0, 1) := by decide +kernel
theorem dX9_truncateInput_14 : decode cX9_truncateInput 14 = .ok (.ireturn, 1) := by decide +kernel
theorem dX9_truncateInput_15 : decode cX9_truncateInput 15 = .ok (.aload_n 0, 1) := by decide +kernel
theorem dX9_truncateInput_16 : decode cX9_truncateInput 16 = .ok (.iload_n 1, 1) := by decide +kernel
theorem dX9_truncateInput_17 : decode cX9_truncateInput 17 = .ok (.putfield 58, 3) := by decide +kernel
theorem dX9_truncateInput_20 : decode cX9_truncateInput 20 = .ok (.iload_n 1, 1) := by decide +kernel
theorem dX9_truncateInput_21 : decode cX9_truncateInput 21 = .ok (.ireturn, 1) := by decide +kernel
theorem dX9_errorCode_0 : decode cX9_errorCode 0 = .ok (.aload_n 0, 1) := by decide +kernel
theorem dX9_errorCode_1 : decode cX9_errorCode 1 = .ok (.iconst 0, 1) := by decide +kernel
theorem dX9_errorCode_2 : decode cX9_errorCode 2 = .ok (.putfield 75, 3) := by decide +kernel
theorem dX9_errorCode_5 : decode cX9_errorCode 5 = .ok (.aload_n 0, 1) := by decide +kernel
theorem dX9_errorCode_6 : decode cX9_errorCode 6 = .ok (.getfield 180, 3) := by decide +kernel
theorem dX9_errorCode_9 : decode cX9_errorCode 9 = .ok (.ireturn, 1) := by decide +kernel
theorem dX9_errorPosition_0 : decode cX9_errorPosition 0 = .ok (.aload_n 0, 1) := by decide +kernel
theorem dX9_errorPosition_1 : decode cX9_errorPosition 1 = .ok (.iconst 0, 1) := by decide +kernel
theorem dX9_errorPosition_2 : decode cX9_errorPosition 2 = .ok (.putfield 75, 3) := by decide +kernel
theorem dX9_errorPosition_5 : decode cX9_errorPosition 5 = .ok (.aload_n 0, 1) := by decide +kernel
theorem dX9_errorPosition_6 : decode cX9_errorPosition 6 = .ok (.getfield 41, 3) := by decide +kernel
theorem dX9_errorPosition_9 : decode cX9_errorPosition 9 = .ok (.ireturn, 1) := by decide +kernel
theorem dX9_byteAt_0 : decode cX9_byteAt 0 = .ok (.iload_n 1, 1) := by decide +kernel
theorem dX9_byteAt_1 : decode cX9_byteAt 1 = .ok (.aload_n 0, 1) := by decide +kernel
theorem dX9_byteAt_2 : decode cX9_byteAt 2 = .ok (.getfield 58, 3) := by decide +kernel
theorem dX9_byteAt_5 : decode cX9_byteAt 5 = .ok (.if_icmp .ge 12, 3) := by decide +kernel
theorem dX9_byteAt_8 : decode cX9_byteAt 8 = .ok (.aload_n 0, 1) := by decide +kernel
theorem dX9_byteAt_9 : decode cX9_byteAt 9 = .ok (.getfield 38, 3) := by decide +kernel
theorem dX9_byteAt_12 : decode cX9_byteAt 12 = .ok (.iload_n 1, 1) := by decide +kernel
theorem dX9_byteAt_13 : decode cX9_byteAt 13 = .ok (.iaload, 1) := by decide +kernel
theorem dX9_byteAt_14 : decode cX9_byteAt 14 = .ok (.goto 4, 3) := by decide +kernel
theorem dX9_byteAt_17 : decode cX9_byteAt 17 = .ok (.iconst (-1), 1) := by decide +kernel
theorem dX9_byteAt_18 : decode cX9_byteAt 18 = .ok (.ireturn, 1) := by decide +kernel
theorem dX9_isLetter_0 : decode cX9_isLetter 0 = .ok (.iload_n 0, 1) := by decide +kernel
theorem dX9_isLetter_1 : decode cX9_isLetter 1 = .ok (.bipush 97, 2) := by decide +kernel
theorem dX9_isLetter_3 : decode cX9_isLetter 3 = .ok (.bipush 122, 2) := by decide +kernel
theorem dX9_isLetter_5 : decode cX9_isLetter 5 = .ok (.invokestatic 183, 3) := by decide +kernel
theorem dX9_isLetter_8 : decode cX9_isLetter 8 = .ok (.ireturn, 1) := by decide +kernel
theorem dX9_advance_0 : decode cX9_advance 0 = .ok (.aload_n 0, 1) := by decide +kernel
theorem dX9_advance_1 : decode cX9_advance 1 = .ok (.aload_n 0, 1) := by decide +kernel
theorem dX9_advance_2 : decode cX9_advance 2 = .ok (.getfield 186, 3) := by decide +kernel
theorem dX9_advance_5 : decode cX9_advance 5 = .ok (.invokevirtual 189, 3) := by decide +kernel
theorem dX9_advance_8 : decode cX9_advance 8 = .ok (.bipush 32, 2) := by decide +kernel
theorem dX9_advance_10 : decode cX9_advance 10 = .ok (.if_icmp .eq 16, 3) := by decide +kernel
theorem dX9_advance_13 : decode cX9_advance 13 = .ok (.aload_n 0, 1) := by decide +kernel
theorem dX9_advance_14 : decode cX9_advance 14 = .ok (.aload_n 0, 1) := by decide +kernel
theorem dX9_advance_15 : decode cX9_advance 15 = .ok (.getfield 186, 3) := by decide +kernel
theorem dX9_advance_18 : decode cX9_advance 18 = .ok (.invokevirtual 189, 3) := by decide +kernel
theorem dX9_advance_21 : decode cX9_advance 21 = .ok (.bipush 10, 2) := by decide +kernel
theorem dX9_advance_23 : decode cX9_advance 23 = .ok (.if_icmp .ne 16, 3) := by decide +kernel
theorem dX9_advance_26 : decode cX9_advance 26 = .ok (.aload_n 0, 1) := by decide +kernel
theorem dX9_advance_27 : decode cX9_advance 27 = .ok (.dup, 1) := by decide +kernel
theorem dX9_advance_28 : decode cX9_advance 28 = .ok (.getfield 186, 3) := by decide +kernel
theorem dX9_advance_31 : decode cX9_advance 31 = .ok (.iconst 1, 1) := by decide +kernel
theorem dX9_advance_32 : decode cX9_advance 32 = .ok (.iadd, 1) := by decide +kernel
theorem dX9_advance_33 : decode cX9_advance 33 = .ok (.putfield 186, 3) := by decide +kernel
theorem dX9_advance_36 : decode cX9_advance 36 = .ok (.goto (-36), 3) := by decide +kernel
theorem dX9_advance_39 : decode cX9_advance 39 = .ok (.aload_n 0, 1) := by decide +kernel
theorem dX9_advance_40 : decode cX9_advance 40 = .ok (.aload_n 0, 1) := by decide +kernel
theorem dX9_advance_41 : decode cX9_advance 41 = .ok (.getfield 186, 3) := by decide +kernel
theorem dX9_advance_44 : decode cX9_advance 44 = .ok (.putfield 192, 3) := by decide +kernel
theorem dX9_advance_47 : decode cX9_advance 47 = .ok (.aload_n 0, 1) := by decide +kernel
theorem dX9_advance_48 : decode cX9_advance 48 = .ok (.iconst 0, 1) := by decide +kernel
theorem dX9_advance_49 : decode cX9_advance 49 = .ok (.putfield 195, 3) := by decide +kernel
theorem dX9_advance_52 : decode cX9_advance 52 = .ok (.aload_n 0, 1) := by decide +kernel
theorem dX9_advance_53 : decode cX9_advance 53 = .ok (.iconst 0, 1) := by decide +kernel
theorem dX9_advance_54 : decode cX9_advance 54 = .ok (.putfield 198, 3) := by decide +kernel
theorem dX9_advance_57 : decode cX9_advance 57 = .ok (.aload_n 0, 1) := by decide +kernel
theorem dX9_advance_58 : decode cX9_advance 58 = .ok (.aload_n 0, 1) := by decide +kernel
theorem dX9_advance_59 : decode cX9_advance 59 = .ok (.getfield 186, 3) := by decide +kernel
theorem dX9_advance_62 : decode cX9_advance 62 = .ok (.invokevirtual 189, 3) := by decide +kernel
theorem dX9_advance_65 : decode cX9_advance 65 = .ok (.istore_n 1, 1) := by decide +kernel
theorem dX9_advance_66 : decode cX9_advance 66 = .ok (.iload_n 1, 1) := by decide +kernel
theorem dX9_advance_67 : decode cX9_advance 67 = .ok (.iconst (-1), 1) := by decide +kernel
theorem dX9_advance_68 : decode cX9_advance 68 = .ok (.if_icmp .ne 11, 3) := by decide +kernel
theorem dX9_advance_71 : decode cX9_advance 71 = .ok (.aload_n 0, 1) := by decide +kernel
theorem dX9_advance_72 : decode cX9_advance 72 = .ok (.iconst 0, 1) := by decide +kernel
theorem dX9_advance_73 : decode cX9_advance 73 = .ok (.putfield 201, 3) := by decide +kernel
theorem dX9_advance_76 : decode cX9_advance 76 = .ok (.goto 153, 3) := by decide +kernel
theorem dX9_advance_79 : decode cX9_advance 79 = .ok (.iload_n 1, 1) := by decide +kernel
theorem dX9_advance_80 : decode cX9_advance 80 = .ok (.invokestatic 204, 3) := by decide +kernel
theorem dX9_advance_83 : decode cX9_advance 83 = .ok (.ifCond .eq 45, 3) := by decide +kernel
theorem dX9_advance_86 : decode cX9_advance 86 = .ok (.aload_n 0, 1) := by decide +kernel
theorem dX9_advance_87 : decode cX9_advance 87 = .ok (.iconst 3, 1) := by decide +kernel
theorem dX9_advance_88 : decode cX9_advance 88 = .ok (.putfield 201, 3) := by decide +kernel
theorem dX9_advance_91 : decode cX9_advance 91 = .ok (.aload_n 0, 1) := by decide +kernel
theorem dX9_advance_92 : decode cX9_advance 92 = .ok (.aload_n 0, 1) := by decide +kernel
theorem dX9_advance_93 : decode cX9_advance 93 = .ok (.getfield 186, 3) := by decide +kernel
theorem dX9_advance_96 : decode cX9_advance 96 = .ok (.invokevirtual 189, 3) := by decide +kernel
theorem dX9_advance_99 : decode cX9_advance 99 = .ok (.invokestatic 204, 3) := by decide +kernel
theorem dX9_advance_102 : decode cX9_advance 102 = .ok (.ifCond .eq 127, 3) := by decide +kernel
theorem dX9_advance_105 : decode cX9_advance 105 = .ok (.aload_n 0, 1) := by decide +kernel
theorem dX9_advance_106 : decode cX9_advance 106 = .ok (.dup, 1) := by decide +kernel
theorem dX9_advance_107 : decode cX9_advance 107 = .ok (.getfield 195, 3) := by decide +kernel
theorem dX9_advance_110 : decode cX9_advance 110 = .ok (.iconst 1, 1) := by decide +kernel
theorem dX9_advance_111 : decode cX9_advance 111 = .ok (.iadd, 1) := by decide +kernel
theorem dX9_advance_112 : decode cX9_advance 112 = .ok (.putfield 195, 3) := by decide +kernel
theorem dX9_advance_115 : decode cX9_advance 115 = .ok (.aload_n 0, 1) := by decide +kernel
theorem dX9_advance_116 : decode cX9_advance 116 = .ok (.dup, 1) := by decide +kernel
theorem dX9_advance_117 : decode cX9_advance 117 = .ok (.getfield 186, 3) := by decide +kernel
theorem dX9_advance_120 : decode cX9_advance 120 = .ok (.iconst 1, 1) := by decide +kernel
theorem dX9_advance_121 : decode cX9_advance 121 = .ok (.iadd, 1) := by decide +kernel
theorem dX9_advance_122 : decode cX9_advance 122 = .ok (.putfield 186, 3) := by decide +kernel
theorem dX9_advance_125 : decode cX9_advance 125 = .ok (.goto (-34), 3) := by decide +kernel
theorem dX9_advance_128 : decode cX9_advance 128 = .ok (.iload_n 1, 1) := by decide +kernel
theorem dX9_advance_129 : decode cX9_advance 129 = .ok (.bipush 48, 2) := by decide +kernel
theorem dX9_advance_131 : decode cX9_advance 131 = .ok (.bipush 57, 2) := by decide +kernel
theorem dX9_advance_133 : decode cX9_advance 133 = .ok (.invokestatic 183, 3) := by decide +kernel
theorem dX9_advance_136 : decode cX9_advance 136 = .ok (.ifCond .eq 78, 3) := by decide +kernel
theorem dX9_advance_139 : decode cX9_advance 139 = .ok (.aload_n 0, 1) := by decide +kernel
theorem dX9_advance_140 : decode cX9_advance 140 = .ok (.iconst 2, 1) := by decide +kernel
theorem dX9_advance_141 : decode cX9_advance 141 = .ok (.putfield 201, 3) := by decide +kernel
theorem dX9_advance_144 : decode cX9_advance 144 = .ok (.aload_n 0, 1) := by decide +kernel
theorem dX9_advance_145 : decode cX9_advance 145 = .ok (.aload_n 0, 1) := by decide +kernel
theorem dX9_advance_146 : decode cX9_advance 146 = .ok (.getfield 186, 3) := by decide +kernel
theorem dX9_advance_149 : decode cX9_advance 149 = .ok (.invokevirtual 189, 3) := by decide +kernel
theorem dX9_advance_152 : decode cX9_advance 152 = .ok (.bipush 48, 2) := by decide +kernel
theorem dX9_advance_154 : decode cX9_advance 154 = .ok (.bipush 57, 2) := by decide +kernel
theorem dX9_advance_156 : decode cX9_advance 156 = .ok (.invokestatic 183, 3) := by decide +kernel
theorem dX9_advance_159 : decode cX9_advance 159 = .ok (.ifCond .eq 70, 3) := by decide +kernel
theorem dX9_advance_162 : decode cX9_advance 162 = .ok (.aload_n 0, 1) := by decide +kernel
theorem dX9_advance_163 : decode cX9_advance 163 = .ok (.aload_n 0, 1) := by decide +kernel
theorem dX9_advance_164 : decode cX9_advance 164 = .ok (.getfield 198, 3) := by decide +kernel
theorem dX9_advance_167 : decode cX9_advance 167 = .ok (.ldc 208, 2) := by decide +kernel
theorem dX9_advance_169 : decode cX9_advance 169 = .ok (.if_icmp .le 10, 3) := by decide +kernel
theorem dX9_advance_172 : decode cX9_advance 172 = .ok (.aload_n 0, 1) := by decide +kernel
theorem dX9_advance_173 : decode cX9_advance 173 = .ok (.getfield 198, 3) := by decide +kernel
theorem dX9_advance_176 : decode cX9_advance 176 = .ok (.goto 22, 3) := by decide +kernel
theorem dX9_advance_179 : decode cX9_advance 179 = .ok (.bipush 10, 2) := by decide +kernel
theorem dX9_advance_181 : decode cX9_advance 181 = .ok (.aload_n 0, 1) := by decide +kernel
theorem dX9_advance_182 : decode cX9_advance 182 = .ok (.getfield 198, 3) := by decide +kernel
theorem dX9_advance_185 : decode cX9_advance 185 = .ok (.imul, 1) := by decide +kernel
theorem dX9_advance_186 : decode cX9_advance 186 = .ok (.aload_n 0, 1) := by decide +kernel
theorem dX9_advance_187 : decode cX9_advance 187 = .ok (.aload_n 0, 1) := by decide +kernel
theorem dX9_advance_188 : decode cX9_advance 188 = .ok (.getfield 186, 3) := by decide +kernel
theorem dX9_advance_191 : decode cX9_advance 191 = .ok (.invokevirtual 189, 3) := by decide +kernel
theorem dX9_advance_194 : decode cX9_advance 194 = .ok (.iadd, 1) := by decide +kernel
theorem dX9_advance_195 : decode cX9_advance 195 = .ok (.bipush 48, 2) := by decide +kernel
theorem dX9_advance_197 : decode cX9_advance 197 = .ok (.isub, 1) := by decide +kernel
theorem dX9_advance_198 : decode cX9_advance 198 = .ok (.putfield 198, 3) := by decide +kernel
theorem dX9_advance_201 : decode cX9_advance 201 = .ok (.aload_n 0, 1) := by decide +kernel
theorem dX9_advance_202 : decode cX9_advance 202 = .ok (.dup, 1) := by decide +kernel
theorem dX9_advance_203 : decode cX9_advance 203 = .ok (.getfield 186, 3) := by decide +kernel
theorem dX9_advance_206 : decode cX9_advance 206 = .ok (.iconst 1, 1) := by decide +kernel
theorem dX9_advance_207 : decode cX9_advance 207 = .ok (.iadd, 1) := by decide +kernel
theorem dX9_advance_208 : decode cX9_advance 208 = .ok (.putfield 186, 3) := by decide +kernel
theorem dX9_advance_211 : decode cX9_advance 211 = .ok (.goto (-67), 3) := by decide +kernel
theorem dX9_advance_214 : decode cX9_advance 214 = .ok (.aload_n 0, 1) := by decide +kernel
theorem dX9_advance_215 : decode cX9_advance 215 = .ok (.iconst 1, 1) := by decide +kernel
theorem dX9_advance_216 : decode cX9_advance 216 = .ok (.putfield 201, 3) := by decide +kernel
theorem dX9_advance_219 : decode cX9_advance 219 = .ok (.aload_n 0, 1) := by decide +kernel
theorem dX9_advance_220 : decode cX9_advance 220 = .ok (.dup, 1) := by decide +kernel
theorem dX9_advance_221 : decode cX9_advance 221 = .ok (.getfield 186, 3) := by decide +kernel
theorem dX9_advance_224 : decode cX9_advance 224 = .ok (.iconst 1, 1) := by decide +kernel
theorem dX9_advance_225 : decode cX9_advance 225 = .ok (.iadd, 1) := by decide +kernel
theorem dX9_advance_226 : decode cX9_advance 226 = .ok (.putfield 186, 3) := by decide +kernel
theorem dX9_advance_229 : decode cX9_advance 229 = .ok (.return_, 1) := by decide +kernel
theorem dX9_is_0 : decode cX9_is 0 = .ok (.aload_n 0, 1) := by decide +kernel
theorem dX9_is_1 : decode cX9_is 1 = .ok (.getfield 201, 3) := by decide +kernel
theorem dX9_is_4 : decode cX9_is 4 = .ok (.iconst 3, 1) := by decide +kernel
theorem dX9_is_5 : decode cX9_is 5 = .ok (.if_icmp .ne 14, 3) := by decide +kernel
theorem dX9_is_8 : decode cX9_is 8 = .ok (.aload_n 0, 1) := by decide +kernel
theorem dX9_is_9 : decode cX9_is 9 = .ok (.getfield 195, 3) := by decide +kernel
theorem dX9_is_12 : decode cX9_is 12 = .ok (.aload_n 1, 1) := by decide +kernel
theorem dX9_is_13 : decode cX9_is 13 = .ok (.invokevirtual 65, 3) := by decide +kernel
theorem dX9_is_16 : decode cX9_is 16 = .ok (.if_icmp .eq 5, 3) := by decide +kernel
theorem dX9_is_19 : decode cX9_is 19 = .ok (.iconst 0, 1) := by decide +kernel
theorem dX9_is_20 : decode cX9_is 20 = .ok (.ireturn, 1) := by decide +kernel
theorem dX9_is_21 : decode cX9_is 21 = .ok (.iconst 0, 1) := by decide +kernel
theorem dX9_is_22 : decode cX9_is 22 = .ok (.istore_n 2, 1) := by decide +kernel
theorem dX9_is_23 : decode cX9_is 23 = .ok (.iload_n 2, 1) := by decide +kernel
theorem dX9_is_24 : decode cX9_is 24 = .ok (.aload_n 0, 1) := by decide +kernel
theorem dX9_is_25 : decode cX9_is 25 = .ok (.getfield 195, 3) := by decide +kernel
theorem dX9_is_28 : decode cX9_is 28 = .ok (.if_icmp .ge 30, 3) := by decide +kernel
theorem dX9_is_31 : decode cX9_is 31 = .ok (.aload_n 0, 1) := by decide +kernel
theorem dX9_is_32 : decode cX9_is 32 = .ok (.getfield 38, 3) := by decide +kernel
theorem dX9_is_35 : decode cX9_is 35 = .ok (.aload_n 0, 1) := by decide +kernel
theorem dX9_is_36 : decode cX9_is 36 = .ok (.getfield 192, 3) := by decide +kernel
theorem dX9_is_39 : decode cX9_is 39 = .ok (.iload_n 2, 1) := by decide +kernel
theorem dX9_is_40 : decode cX9_is 40 = .ok (.iadd, 1) := by decide +kernel
theorem dX9_is_41 : decode cX9_is 41 = .ok (.iaload, 1) := by decide +kernel
theorem dX9_is_42 : decode cX9_is 42 = .ok (.aload_n 1, 1) := by decide +kernel
theorem dX9_is_43 : decode cX9_is 43 = .ok (.iload_n 2, 1) := by decide +kernel
theorem dX9_is_44 : decode cX9_is 44 = .ok (.invokevirtual 71, 3) := by decide +kernel
theorem dX9_is_47 : decode cX9_is 47 = .ok (.if_icmp .eq 5, 3) := by decide +kernel
theorem dX9_is_50 : decode cX9_is 50 = .ok (.iconst 0, 1) := by decide +kernel
theorem dX9_is_51 : decode cX9_is 51 = .ok (.ireturn, 1) := by decide +kernel
theorem dX9_is_52 : decode cX9_is 52 = .ok (.iinc 2 1, 3) := by decide +kernel
theorem dX9_is_55 : decode cX9_is 55 = .ok (.goto (-32), 3) := by decide +kernel
theorem dX9_is_58 : decode cX9_is 58 = .ok (.iconst 1, 1) := by decide +kernel
theorem dX9_is_59 : decode cX9_is 59 = .ok (.ireturn, 1) := by decide +kernel
theorem dX9_check_0 : decode cX9_check 0 = .ok (.aload_n 0, 1) := by decide +kernel
theorem dX9_check_1 : decode cX9_check 1 = .ok (.getfield 180, 3) := by decide +kernel
theorem dX9_check_4 : decode cX9_check 4 = .ok (.ifCond .ne 20, 3) := by decide +kernel
theorem dX9_check_7 : decode cX9_check 7 = .ok (.iload_n 1, 1) := by decide +kernel
theorem dX9_check_8 : decode cX9_check 8 = .ok (.ifCond .ne 16, 3) := by decide +kernel
theorem dX9_check_11 : decode cX9_check 11 = .ok (.aload_n 0, 1) := by decide +kernel
theorem dX9_check_12 : decode cX9_check 12 = .ok (.iload_n 2, 1) := by decide +kernel
theorem dX9_check_13 : decode cX9_check 13 = .ok (.putfield 180, 3) := by decide +kernel
theorem dX9_check_16 : decode cX9_check 16 = .ok (.aload_n 0, 1) := by decide +kernel
theorem dX9_check_17 : decode cX9_check 17 = .ok (.aload_n 0, 1) := by decide +kernel
theorem dX9_check_18 : decode cX9_check 18 = .ok (.getfield 192, 3) := by decide +kernel
theorem dX9_check_21 : decode cX9_check 21 = .ok (.putfield 41, 3) := by decide +kernel
theorem dX9_check_24 : decode cX9_check 24 = .ok (.aload_n 0, 1) := by decide +kernel
theorem dX9_check_25 : decode cX9_check 25 = .ok (.getfield 180, 3) := by decide +kernel
theorem dX9_check_28 : decode cX9_check 28 = .ok (.ifCond .ne 7, 3) := by decide +kernel
theorem dX9_check_31 : decode cX9_check 31 = .ok (.iconst 1, 1) := by decide +kernel
theorem dX9_check_32 : decode cX9_check 32 = .ok (.goto 4, 3) := by decide +kernel
theorem dX9_check_35 : decode cX9_check 35 = .ok (.iconst 0, 1) := by decide +kernel
theorem dX9_check_36 : decode cX9_check 36 = .ok (.ireturn, 1) := by decide +kernel
theorem dX9_next_0 : decode cX9_next 0 = .ok (.aload_n 0, 1) := by decide +kernel
theorem dX9_next_1 : decode cX9_next 1 = .ok (.getfield 180, 3) := by decide +kernel
theorem dX9_next_4 : decode cX9_next 4 = .ok (.ifCond .ne 7, 3) := by decide +kernel
theorem dX9_next_7 : decode cX9_next 7 = .ok (.aload_n 0, 1) := by decide +kernel
theorem dX9_next_8 : decode cX9_next 8 = .ok (.invokevirtual 209, 3) := by decide +kernel
theorem dX9_next_11 : decode cX9_next 11 = .ok (.return_, 1) := by decide +kernel
theorem dX9_number_0 : decode cX9_number 0 = .ok (.aload_n 0, 1) := by decide +kernel
theorem dX9_number_1 : decode cX9_number 1 = .ok (.aload_n 0, 1) := by decide +kernel
theorem dX9_number_2 : decode cX9_number 2 = .ok (.getfield 201, 3) := by decide +kernel
theorem dX9_number_5 : decode cX9_number 5 = .ok (.iconst 2, 1) := by decide +kernel
theorem dX9_number_6 : decode cX9_number 6 = .ok (.if_icmp .ne 7, 3) := by decide +kernel
theorem dX9_number_9 : decode cX9_number 9 = .ok (.iconst 1, 1) := by decide +kernel
theorem dX9_number_10 : decode cX9_number 10 = .ok (.goto 4, 3) := by decide +kernel
theorem dX9_number_13 : decode cX9_number 13 = .ok (.iconst 0, 1) := by decide +kernel
theorem dX9_number_14 : decode cX9_number 14 = .ok (.iconst 1, 1) := by decide +kernel
theorem dX9_number_15 : decode cX9_number 15 = .ok (.invokevirtual 212, 3) := by decide +kernel
theorem dX9_number_18 : decode cX9_number 18 = .ok (.pop, 1) := by decide +kernel
theorem dX9_number_19 : decode cX9_number 19 = .ok (.aload_n 0, 1) := by decide +kernel
theorem dX9_number_20 : decode cX9_number 20 = .ok (.aload_n 0, 1) := by decide +kernel
theorem dX9_number_21 : decode cX9_number 21 = .ok (.getfield 198, 3) := by decide +kernel
theorem dX9_number_24 : decode cX9_number 24 = .ok (.iload_n 1, 1) := by decide +kernel
theorem dX9_number_25 : decode cX9_number 25 = .ok (.iload_n 2, 1) := by decide +kernel
theorem dX9_number_26 : decode cX9_number 26 = .ok (.invokestatic 183, 3) := by decide +kernel
theorem dX9_number_29 : decode cX9_number 29 = .ok (.iconst 2, 1) := by decide +kernel
theorem dX9_number_30 : decode cX9_number 30 = .ok (.invokevirtual 212, 3) := by decide +kernel
theorem dX9_number_33 : decode cX9_number 33 = .ok (.pop, 1) := by decide +kernel
theorem dX9_number_34 : decode cX9_number 34 = .ok (.aload_n 0, 1) := by decide +kernel
theorem dX9_number_35 : decode cX9_number 35 = .ok (.getfield 180, 3) := by decide +kernel
theorem dX9_number_38 : decode cX9_number 38 = .ok (.ifCond .ne 10, 3) := by decide +kernel
theorem dX9_number_41 : decode cX9_number 41 = .ok (.aload_n 0, 1) := by decide +kernel
theorem dX9_number_42 : decode cX9_number 42 = .ok (.getfield 198, 3) := by decide +kernel
theorem dX9_number_45 : decode cX9_number 45 = .ok (.goto 4, 3) := by decide +kernel
theorem dX9_number_48 : decode cX9_number 48 = .ok (.iload_n 1, 1) := by decide +kernel
theorem dX9_number_49 : decode cX9_number 49 = .ok (.istore_n 3, 1) := by decide +kernel
theorem dX9_number_50 : decode cX9_number 50 = .ok (.aload_n 0, 1) := by decide +kernel
theorem dX9_number_51 : decode cX9_number 51 = .ok (.invokevirtual 215, 3) := by decide +kernel
theorem dX9_number_54 : decode cX9_number 54 = .ok (.iload_n 3, 1) := by decide +kernel
theorem dX9_number_55 : decode cX9_number 55 = .ok (.ireturn, 1) := by decide +kernel
theorem dX9_semicolon_0 : decode cX9_semicolon 0 = .ok (.aload_n 0, 1) := by decide +kernel
theorem dX9_semicolon_1 : decode cX9_semicolon 1 = .ok (.aload_n 0, 1) := by decide +kernel
theorem dX9_semicolon_2 : decode cX9_semicolon 2 = .ok (.getfield 201, 3) := by decide +kernel
theorem dX9_semicolon_5 : decode cX9_semicolon 5 = .ok (.iconst 1, 1) := by decide +kernel
theorem dX9_semicolon_6 : decode cX9_semicolon 6 = .ok (.if_icmp .ne 21, 3) := by decide +kernel
theorem dX9_semicolon_9 : decode cX9_semicolon 9 = .ok (.aload_n 0, 1) := by decide +kernel
theorem dX9_semicolon_10 : decode cX9_semicolon 10 = .ok (.getfield 38, 3) := by decide +kernel
theorem dX9_semicolon_13 : decode cX9_semicolon 13 = .ok (.aload_n 0, 1) := by decide +kernel
theorem dX9_semicolon_14 : decode cX9_semicolon 14 = .ok (.getfield 192, 3) := by decide +kernel
theorem dX9_semicolon_17 : decode cX9_semicolon 17 = .ok (.iaload, 1) := by decide +kernel
theorem dX9_semicolon_18 : decode cX9_semicolon 18 = .ok (.bipush 59, 2) := by decide +kernel
theorem dX9_semicolon_20 : decode cX9_semicolon 20 = .ok (.if_icmp .ne 7, 3) := by decide +kernel
theorem dX9_semicolon_23 : decode cX9_semicolon 23 = .ok (.iconst 1, 1) := by decide +kernel
theorem dX9_semicolon_24 : decode cX9_semicolon 24 = .ok (.goto 4, 3) := by decide +kernel
theorem dX9_semicolon_27 : decode cX9_semicolon 27 = .ok (.iconst 0, 1) := by decide +kernel
theorem dX9_semicolon_28 : decode cX9_semicolon 28 = .ok (.iconst 1, 1) := by decide +kernel
theorem dX9_semicolon_29 : decode cX9_semicolon 29 = .ok (.invokevirtual 212, 3) := by decide +kernel
theorem dX9_semicolon_32 : decode cX9_semicolon 32 = .ok (.pop, 1) := by decide +kernel
theorem dX9_semicolon_33 : decode cX9_semicolon 33 = .ok (.return_, 1) := by decide +kernel
theorem dX9_finish_0 : decode cX9_finish 0 = .ok (.aload_n 0, 1) := by decide +kernel
theorem dX9_finish_1 : decode cX9_finish 1 = .ok (.invokevirtual 218, 3) := by decide +kernel
theorem dX9_finish_4 : decode cX9_finish 4 = .ok (.aload_n 0, 1) := by decide +kernel
theorem dX9_finish_5 : decode cX9_finish 5 = .ok (.invokevirtual 215, 3) := by decide +kernel
theorem dX9_finish_8 : decode cX9_finish 8 = .ok (.return_, 1) := by decide +kernel
theorem dX9_nameFrom_0 : decode cX9_nameFrom 0 = .ok (.iload_n 2, 1) := by decide +kernel
theorem dX9_nameFrom_1 : decode cX9_nameFrom 1 = .ok (.iconst 1, 1) := by decide +kernel
theorem dX9_nameFrom_2 : decode cX9_nameFrom 2 = .ok (.iconst 4, 1) := by decide +kernel
theorem dX9_nameFrom_3 : decode cX9_nameFrom 3 = .ok (.invokestatic 183, 3) := by decide +kernel
theorem dX9_nameFrom_6 : decode cX9_nameFrom 6 = .ok (.ifCond .ne 5, 3) := by decide +kernel
theorem dX9_nameFrom_9 : decode cX9_nameFrom 9 = .ok (.iconst (-1), 1) := by decide +kernel
theorem dX9_nameFrom_10 : decode cX9_nameFrom 10 = .ok (.ireturn, 1) := by decide +kernel
theorem dX9_nameFrom_11 : decode cX9_nameFrom 11 = .ok (.iconst 0, 1) := by decide +kernel
theorem dX9_nameFrom_12 : decode cX9_nameFrom 12 = .ok (.istore_n 3, 1) := by decide +kernel
theorem dX9_nameFrom_13 : decode cX9_nameFrom 13 = .ok (.iconst 0, 1) := by decide +kernel
theorem dX9_nameFrom_14 : decode cX9_nameFrom 14 = .ok (.istore 4, 2) := by decide +kernel
theorem dX9_nameFrom_16 : decode cX9_nameFrom 16 = .ok (.iload 4, 2) := by decide +kernel
theorem dX9_nameFrom_18 : decode cX9_nameFrom 18 = .ok (.iconst 4, 1) := by decide +kernel
theorem dX9_nameFrom_19 : decode cX9_nameFrom 19 = .ok (.if_icmp .ge 60, 3) := by decide +kernel
theorem dX9_nameFrom_22 : decode cX9_nameFrom 22 = .ok (.iload 4, 2) := by decide +kernel
theorem dX9_nameFrom_24 : decode cX9_nameFrom 24 = .ok (.iload_n 2, 1) := by decide +kernel
theorem dX9_nameFrom_25 : decode cX9_nameFrom 25 = .ok (.if_icmp .ge 20, 3) := by decide +kernel
theorem dX9_nameFrom_28 : decode cX9_nameFrom 28 = .ok (.aload_n 0, 1) := by decide +kernel
theorem dX9_nameFrom_29 : decode cX9_nameFrom 29 = .ok (.getfield 38, 3) := by decide +kernel
theorem dX9_nameFrom_32 : decode cX9_nameFrom 32 = .ok (.iload_n 1, 1) := by decide +kernel
theorem dX9_nameFrom_33 : decode cX9_nameFrom 33 = .ok (.iload 4, 2) := by decide +kernel
theorem dX9_nameFrom_35 : decode cX9_nameFrom 35 = .ok (.iadd, 1) := by decide +kernel
theorem dX9_nameFrom_36 : decode cX9_nameFrom 36 = .ok (.iaload, 1) := by decide +kernel
theorem dX9_nameFrom_37 : decode cX9_nameFrom 37 = .ok (.invokestatic 204, 3) := by decide +kernel
theorem dX9_nameFrom_40 : decode cX9_nameFrom 40 = .ok (.ifCond .ne 5, 3) := by decide +kernel
theorem dX9_nameFrom_43 : decode cX9_nameFrom 43 = .ok (.iconst (-1), 1) := by decide +kernel
theorem dX9_nameFrom_44 : decode cX9_nameFrom 44 = .ok (.ireturn, 1) := by decide +kernel
theorem dX9_nameFrom_45 : decode cX9_nameFrom 45 = .ok (.iload_n 3, 1) := by decide +kernel
theorem dX9_nameFrom_46 : decode cX9_nameFrom 46 = .ok (.bipush 27, 2) := by decide +kernel
theorem dX9_nameFrom_48 : decode cX9_nameFrom 48 = .ok (.imul, 1) := by decide +kernel
theorem dX9_nameFrom_49 : decode cX9_nameFrom 49 = .ok (.iload 4, 2) := by decide +kernel
theorem dX9_nameFrom_51 : decode cX9_nameFrom 51 = .ok (.iload_n 2, 1) := by decide +kernel
theorem dX9_nameFrom_52 : decode cX9_nameFrom 52 = .ok (.if_icmp .ge 18, 3) := by decide +kernel
theorem dX9_nameFrom_55 : decode cX9_nameFrom 55 = .ok (.aload_n 0, 1) := by decide +kernel
theorem dX9_nameFrom_56 : decode cX9_nameFrom 56 = .ok (.getfield 38, 3) := by decide +kernel
theorem dX9_nameFrom_59 : decode cX9_nameFrom 59 = .ok (.iload_n 1, 1) := by decide +kernel
theorem dX9_nameFrom_60 : decode cX9_nameFrom 60 = .ok (.iload 4, 2) := by decide +kernel
theorem dX9_nameFrom_62 : decode cX9_nameFrom 62 = .ok (.iadd, 1) := by decide +kernel
theorem dX9_nameFrom_63 : decode cX9_nameFrom 63 = .ok (.iaload, 1) := by decide +kernel
theorem dX9_nameFrom_64 : decode cX9_nameFrom 64 = .ok (.bipush 96, 2) := by decide +kernel
theorem dX9_nameFrom_66 : decode cX9_nameFrom 66 = .ok (.isub, 1) := by decide +kernel
theorem dX9_nameFrom_67 : decode cX9_nameFrom 67 = .ok (.goto 4, 3) := by decide +kernel
theorem dX9_nameFrom_70 : decode cX9_nameFrom 70 = .ok (.iconst 0, 1) := by decide +kernel
theorem dX9_nameFrom_71 : decode cX9_nameFrom 71 = .ok (.iadd, 1) := by decide +kernel
theorem dX9_nameFrom_72 : decode cX9_nameFrom 72 = .ok (.istore_n 3, 1) := by decide +kernel
theorem dX9_nameFrom_73 : decode cX9_nameFrom 73 = .ok (.iinc 4 1, 3) := by decide +kernel
theorem dX9_nameFrom_76 : decode cX9_nameFrom 76 = .ok (.goto (-60), 3) := by decide +kernel
theorem dX9_nameFrom_79 : decode cX9_nameFrom 79 = .ok (.iload_n 3, 1) := by decide +kernel
theorem dX9_nameFrom_80 : decode cX9_nameFrom 80 = .ok (.ireturn, 1) := by decide +kernel
theorem dX9_bakerNamed_0 : decode cX9_bakerNamed 0 = .ok (.iconst 0, 1) := by decide +kernel
theorem dX9_bakerNamed_1 : decode cX9_bakerNamed 1 = .ok (.istore_n 2, 1) := by decide +kernel
theorem dX9_bakerNamed_2 : decode cX9_bakerNamed 2 = .ok (.iload_n 2, 1) := by decide +kernel
