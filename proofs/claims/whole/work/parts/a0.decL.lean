theorem dL_addBoat_0 : decode cL_addBoat 0 = .ok (.aload 5, 2) := by decide +kernel
theorem dL_addBoat_2 : decode cL_addBoat 2 = .ok (.iconst 0, 1) := by decide +kernel
theorem dL_addBoat_3 : decode cL_addBoat 3 = .ok (.aload_n 0, 1) := by decide +kernel
theorem dL_addBoat_4 : decode cL_addBoat 4 = .ok (.iload_n 1, 1) := by decide +kernel
theorem dL_addBoat_5 : decode cL_addBoat 5 = .ok (.iload_n 2, 1) := by decide +kernel
theorem dL_addBoat_6 : decode cL_addBoat 6 = .ok (.iload_n 3, 1) := by decide +kernel
theorem dL_addBoat_7 : decode cL_addBoat 7 = .ok (.iload 4, 2) := by decide +kernel
theorem dL_addBoat_9 : decode cL_addBoat 9 = .ok (.invokevirtual 7, 3) := by decide +kernel
theorem dL_addBoat_12 : decode cL_addBoat 12 = .ok (.i2l, 1) := by decide +kernel
theorem dL_addBoat_13 : decode cL_addBoat 13 = .ok (.lastore, 1) := by decide +kernel
theorem dL_addBoat_14 : decode cL_addBoat 14 = .ok (.goto 11, 3) := by decide +kernel
theorem dL_addBoat_17 : decode cL_addBoat 17 = .ok (.astore 6, 2) := by decide +kernel
theorem dL_addBoat_19 : decode cL_addBoat 19 = .ok (.iconst 1, 1) := by decide +kernel
theorem dL_addBoat_20 : decode cL_addBoat 20 = .ok (.ireturn, 1) := by decide +kernel
theorem dL_addBoat_21 : decode cL_addBoat 21 = .ok (.astore 6, 2) := by decide +kernel
theorem dL_addBoat_23 : decode cL_addBoat 23 = .ok (.iconst 2, 1) := by decide +kernel
theorem dL_addBoat_24 : decode cL_addBoat 24 = .ok (.ireturn, 1) := by decide +kernel
theorem dL_addBoat_25 : decode cL_addBoat 25 = .ok (.iconst 0, 1) := by decide +kernel
theorem dL_addBoat_26 : decode cL_addBoat 26 = .ok (.ireturn, 1) := by decide +kernel
theorem dL_land_0 : decode cL_land 0 = .ok (.aload 6, 2) := by decide +kernel
theorem dL_land_2 : decode cL_land 2 = .ok (.iconst 0, 1) := by decide +kernel
theorem dL_land_3 : decode cL_land 3 = .ok (.aload_n 0, 1) := by decide +kernel
theorem dL_land_4 : decode cL_land 4 = .ok (.iload_n 1, 1) := by decide +kernel
theorem dL_land_5 : decode cL_land 5 = .ok (.iload_n 2, 1) := by decide +kernel
theorem dL_land_6 : decode cL_land 6 = .ok (.iload_n 3, 1) := by decide +kernel
theorem dL_land_7 : decode cL_land 7 = .ok (.iload 4, 2) := by decide +kernel
theorem dL_land_9 : decode cL_land 9 = .ok (.iload 5, 2) := by decide +kernel
theorem dL_land_11 : decode cL_land 11 = .ok (.invokevirtual 17, 3) := by decide +kernel
theorem dL_land_14 : decode cL_land 14 = .ok (.i2l, 1) := by decide +kernel
theorem dL_land_15 : decode cL_land 15 = .ok (.lastore, 1) := by decide +kernel
theorem dL_land_16 : decode cL_land 16 = .ok (.goto 19, 3) := by decide +kernel
theorem dL_land_19 : decode cL_land 19 = .ok (.astore 7, 2) := by decide +kernel
theorem dL_land_21 : decode cL_land 21 = .ok (.iconst 1, 1) := by decide +kernel
theorem dL_land_22 : decode cL_land 22 = .ok (.ireturn, 1) := by decide +kernel
theorem dL_land_23 : decode cL_land 23 = .ok (.astore 7, 2) := by decide +kernel
theorem dL_land_25 : decode cL_land 25 = .ok (.iconst 2, 1) := by decide +kernel
theorem dL_land_26 : decode cL_land 26 = .ok (.ireturn, 1) := by decide +kernel
theorem dL_land_27 : decode cL_land 27 = .ok (.astore 7, 2) := by decide +kernel
theorem dL_land_29 : decode cL_land 29 = .ok (.iconst 3, 1) := by decide +kernel
theorem dL_land_30 : decode cL_land 30 = .ok (.ireturn, 1) := by decide +kernel
theorem dL_land_31 : decode cL_land 31 = .ok (.astore 7, 2) := by decide +kernel
theorem dL_land_33 : decode cL_land 33 = .ok (.iconst 4, 1) := by decide +kernel
theorem dL_land_34 : decode cL_land 34 = .ok (.ireturn, 1) := by decide +kernel
theorem dL_land_35 : decode cL_land 35 = .ok (.iconst 0, 1) := by decide +kernel
theorem dL_land_36 : decode cL_land 36 = .ok (.ireturn, 1) := by decide +kernel
theorem dL_moveQuota_0 : decode cL_moveQuota 0 = .ok (.aload 5, 2) := by decide +kernel
theorem dL_moveQuota_2 : decode cL_moveQuota 2 = .ok (.iconst 0, 1) := by decide +kernel
theorem dL_moveQuota_3 : decode cL_moveQuota 3 = .ok (.aload_n 0, 1) := by decide +kernel
theorem dL_moveQuota_4 : decode cL_moveQuota 4 = .ok (.iload_n 1, 1) := by decide +kernel
theorem dL_moveQuota_5 : decode cL_moveQuota 5 = .ok (.iload_n 2, 1) := by decide +kernel
theorem dL_moveQuota_6 : decode cL_moveQuota 6 = .ok (.iload_n 3, 1) := by decide +kernel
theorem dL_moveQuota_7 : decode cL_moveQuota 7 = .ok (.iload 4, 2) := by decide +kernel
theorem dL_moveQuota_9 : decode cL_moveQuota 9 = .ok (.invokevirtual 25, 3) := by decide +kernel
theorem dL_moveQuota_12 : decode cL_moveQuota 12 = .ok (.i2l, 1) := by decide +kernel
theorem dL_moveQuota_13 : decode cL_moveQuota 13 = .ok (.lastore, 1) := by decide +kernel
theorem dL_moveQuota_14 : decode cL_moveQuota 14 = .ok (.goto 15, 3) := by decide +kernel
theorem dL_moveQuota_17 : decode cL_moveQuota 17 = .ok (.astore 6, 2) := by decide +kernel
theorem dL_moveQuota_19 : decode cL_moveQuota 19 = .ok (.iconst 1, 1) := by decide +kernel
theorem dL_moveQuota_20 : decode cL_moveQuota 20 = .ok (.ireturn, 1) := by decide +kernel
theorem dL_moveQuota_21 : decode cL_moveQuota 21 = .ok (.astore 6, 2) := by decide +kernel
theorem dL_moveQuota_23 : decode cL_moveQuota 23 = .ok (.iconst 2, 1) := by decide +kernel
theorem dL_moveQuota_24 : decode cL_moveQuota 24 = .ok (.ireturn, 1) := by decide +kernel
theorem dL_moveQuota_25 : decode cL_moveQuota 25 = .ok (.astore 6, 2) := by decide +kernel
theorem dL_moveQuota_27 : decode cL_moveQuota 27 = .ok (.iconst 3, 1) := by decide +kernel
theorem dL_moveQuota_28 : decode cL_moveQuota 28 = .ok (.ireturn, 1) := by decide +kernel
theorem dL_moveQuota_29 : decode cL_moveQuota 29 = .ok (.iconst 0, 1) := by decide +kernel
theorem dL_moveQuota_30 : decode cL_moveQuota 30 = .ok (.ireturn, 1) := by decide +kernel
theorem dL_quota_0 : decode cL_quota 0 = .ok (.aload_n 3, 1) := by decide +kernel
theorem dL_quota_1 : decode cL_quota 1 = .ok (.iconst 0, 1) := by decide +kernel
theorem dL_quota_2 : decode cL_quota 2 = .ok (.aload_n 0, 1) := by decide +kernel
theorem dL_quota_3 : decode cL_quota 3 = .ok (.iload_n 1, 1) := by decide +kernel
theorem dL_quota_4 : decode cL_quota 4 = .ok (.iload_n 2, 1) := by decide +kernel
theorem dL_quota_5 : decode cL_quota 5 = .ok (.invokevirtual 28, 3) := by decide +kernel
theorem dL_quota_8 : decode cL_quota 8 = .ok (.i2l, 1) := by decide +kernel
theorem dL_quota_9 : decode cL_quota 9 = .ok (.lastore, 1) := by decide +kernel
theorem dL_quota_10 : decode cL_quota 10 = .ok (.goto 11, 3) := by decide +kernel
theorem dL_quota_13 : decode cL_quota 13 = .ok (.astore 4, 2) := by decide +kernel
theorem dL_quota_15 : decode cL_quota 15 = .ok (.iconst 1, 1) := by decide +kernel
theorem dL_quota_16 : decode cL_quota 16 = .ok (.ireturn, 1) := by decide +kernel
theorem dL_quota_17 : decode cL_quota 17 = .ok (.astore 4, 2) := by decide +kernel
theorem dL_quota_19 : decode cL_quota 19 = .ok (.iconst 2, 1) := by decide +kernel
theorem dL_quota_20 : decode cL_quota 20 = .ok (.ireturn, 1) := by decide +kernel
theorem dL_quota_21 : decode cL_quota 21 = .ok (.iconst 0, 1) := by decide +kernel
theorem dL_quota_22 : decode cL_quota 22 = .ok (.ireturn, 1) := by decide +kernel
theorem dL_quotaAt_0 : decode cL_quotaAt 0 = .ok (.aload 4, 2) := by decide +kernel
theorem dL_quotaAt_2 : decode cL_quotaAt 2 = .ok (.iconst 0, 1) := by decide +kernel
theorem dL_quotaAt_3 : decode cL_quotaAt 3 = .ok (.aload_n 0, 1) := by decide +kernel
theorem dL_quotaAt_4 : decode cL_quotaAt 4 = .ok (.iload_n 1, 1) := by decide +kernel
theorem dL_quotaAt_5 : decode cL_quotaAt 5 = .ok (.iload_n 2, 1) := by decide +kernel
theorem dL_quotaAt_6 : decode cL_quotaAt 6 = .ok (.iload_n 3, 1) := by decide +kernel
theorem dL_quotaAt_7 : decode cL_quotaAt 7 = .ok (.invokevirtual 32, 3) := by decide +kernel
theorem dL_quotaAt_10 : decode cL_quotaAt 10 = .ok (.i2l, 1) := by decide +kernel
theorem dL_quotaAt_11 : decode cL_quotaAt 11 = .ok (.lastore, 1) := by decide +kernel
theorem dL_quotaAt_12 : decode cL_quotaAt 12 = .ok (.goto 15, 3) := by decide +kernel
theorem dL_quotaAt_15 : decode cL_quotaAt 15 = .ok (.astore 5, 2) := by decide +kernel
theorem dL_quotaAt_17 : decode cL_quotaAt 17 = .ok (.iconst 1, 1) := by decide +kernel
theorem dL_quotaAt_18 : decode cL_quotaAt 18 = .ok (.ireturn, 1) := by decide +kernel
theorem dL_quotaAt_19 : decode cL_quotaAt 19 = .ok (.astore 5, 2) := by decide +kernel
theorem dL_quotaAt_21 : decode cL_quotaAt 21 = .ok (.iconst 2, 1) := by decide +kernel
theorem dL_quotaAt_22 : decode cL_quotaAt 22 = .ok (.ireturn, 1) := by decide +kernel
theorem dL_quotaAt_23 : decode cL_quotaAt 23 = .ok (.astore 5, 2) := by decide +kernel
theorem dL_quotaAt_25 : decode cL_quotaAt 25 = .ok (.iconst 3, 1) := by decide +kernel
theorem dL_quotaAt_26 : decode cL_quotaAt 26 = .ok (.ireturn, 1) := by decide +kernel
theorem dL_quotaAt_27 : decode cL_quotaAt 27 = .ok (.iconst 0, 1) := by decide +kernel
theorem dL_quotaAt_28 : decode cL_quotaAt 28 = .ok (.ireturn, 1) := by decide +kernel
theorem dL_endDay_0 : decode cL_endDay 0 = .ok (.aload_n 1, 1) := by decide +kernel
theorem dL_endDay_1 : decode cL_endDay 1 = .ok (.iconst 0, 1) := by decide +kernel
theorem dL_endDay_2 : decode cL_endDay 2 = .ok (.aload_n 0, 1) := by decide +kernel
theorem dL_endDay_3 : decode cL_endDay 3 = .ok (.invokevirtual 38, 3) := by decide +kernel
theorem dL_endDay_6 : decode cL_endDay 6 = .ok (.i2l, 1) := by decide +kernel
theorem dL_endDay_7 : decode cL_endDay 7 = .ok (.lastore, 1) := by decide +kernel
theorem dL_endDay_8 : decode cL_endDay 8 = .ok (.goto 6, 3) := by decide +kernel
theorem dL_endDay_11 : decode cL_endDay 11 = .ok (.astore_n 2, 1) := by decide +kernel
theorem dL_endDay_12 : decode cL_endDay 12 = .ok (.iconst 1, 1) := by decide +kernel
theorem dL_endDay_13 : decode cL_endDay 13 = .ok (.ireturn, 1) := by decide +kernel
theorem dL_endDay_14 : decode cL_endDay 14 = .ok (.iconst 0, 1) := by decide +kernel
theorem dL_endDay_15 : decode cL_endDay 15 = .ok (.ireturn, 1) := by decide +kernel
theorem dL_weight_0 : decode cL_weight 0 = .ok (.aload_n 2, 1) := by decide +kernel
theorem dL_weight_1 : decode cL_weight 1 = .ok (.iconst 0, 1) := by decide +kernel
theorem dL_weight_2 : decode cL_weight 2 = .ok (.aload_n 0, 1) := by decide +kernel
theorem dL_weight_3 : decode cL_weight 3 = .ok (.iload_n 1, 1) := by decide +kernel
theorem dL_weight_4 : decode cL_weight 4 = .ok (.invokevirtual 42, 3) := by decide +kernel
theorem dL_weight_7 : decode cL_weight 7 = .ok (.i2l, 1) := by decide +kernel
theorem dL_weight_8 : decode cL_weight 8 = .ok (.lastore, 1) := by decide +kernel
theorem dL_weight_9 : decode cL_weight 9 = .ok (.goto 6, 3) := by decide +kernel
theorem dL_weight_12 : decode cL_weight 12 = .ok (.astore_n 3, 1) := by decide +kernel
theorem dL_weight_13 : decode cL_weight 13 = .ok (.iconst 1, 1) := by decide +kernel
theorem dL_weight_14 : decode cL_weight 14 = .ok (.ireturn, 1) := by decide +kernel
theorem dL_weight_15 : decode cL_weight 15 = .ok (.iconst 0, 1) := by decide +kernel
theorem dL_weight_16 : decode cL_weight 16 = .ok (.ireturn, 1) := by decide +kernel
theorem dL_stateOf_0 : decode cL_stateOf 0 = .ok (.aload_n 2, 1) := by decide +kernel
theorem dL_stateOf_1 : decode cL_stateOf 1 = .ok (.iconst 0, 1) := by decide +kernel
theorem dL_stateOf_2 : decode cL_stateOf 2 = .ok (.aload_n 0, 1) := by decide +kernel
theorem dL_stateOf_3 : decode cL_stateOf 3 = .ok (.iload_n 1, 1) := by decide +kernel
theorem dL_stateOf_4 : decode cL_stateOf 4 = .ok (.invokevirtual 46, 3) := by decide +kernel
theorem dL_stateOf_7 : decode cL_stateOf 7 = .ok (.i2l, 1) := by decide +kernel
theorem dL_stateOf_8 : decode cL_stateOf 8 = .ok (.lastore, 1) := by decide +kernel
theorem dL_stateOf_9 : decode cL_stateOf 9 = .ok (.goto 6, 3) := by decide +kernel
theorem dL_stateOf_12 : decode cL_stateOf 12 = .ok (.astore_n 3, 1) := by decide +kernel
theorem dL_stateOf_13 : decode cL_stateOf 13 = .ok (.iconst 1, 1) := by decide +kernel
theorem dL_stateOf_14 : decode cL_stateOf 14 = .ok (.ireturn, 1) := by decide +kernel
theorem dL_stateOf_15 : decode cL_stateOf 15 = .ok (.iconst 0, 1) := by decide +kernel
theorem dL_stateOf_16 : decode cL_stateOf 16 = .ok (.ireturn, 1) := by decide +kernel
theorem dL_fresh_0 : decode cL_fresh 0 = .ok (.aload_n 2, 1) := by decide +kernel
theorem dL_fresh_1 : decode cL_fresh 1 = .ok (.iconst 0, 1) := by decide +kernel
theorem dL_fresh_2 : decode cL_fresh 2 = .ok (.aload_n 0, 1) := by decide +kernel
theorem dL_fresh_3 : decode cL_fresh 3 = .ok (.iload_n 1, 1) := by decide +kernel
theorem dL_fresh_4 : decode cL_fresh 4 = .ok (.invokevirtual 50, 3) := by decide +kernel
theorem dL_fresh_7 : decode cL_fresh 7 = .ok (.f2d, 1) := by decide +kernel
theorem dL_fresh_8 : decode cL_fresh 8 = .ok (.dastore, 1) := by decide +kernel
theorem dL_fresh_9 : decode cL_fresh 9 = .ok (.goto 6, 3) := by decide +kernel
theorem dL_fresh_12 : decode cL_fresh 12 = .ok (.astore_n 3, 1) := by decide +kernel
theorem dL_fresh_13 : decode cL_fresh 13 = .ok (.iconst 1, 1) := by decide +kernel
theorem dL_fresh_14 : decode cL_fresh 14 = .ok (.ireturn, 1) := by decide +kernel
theorem dL_fresh_15 : decode cL_fresh 15 = .ok (.iconst 0, 1) := by decide +kernel
theorem dL_fresh_16 : decode cL_fresh 16 = .ok (.ireturn, 1) := by decide +kernel
theorem dL_freshBits_0 : decode cL_freshBits 0 = .ok (.aload_n 2, 1) := by decide +kernel
theorem dL_freshBits_1 : decode cL_freshBits 1 = .ok (.iconst 0, 1) := by decide +kernel
theorem dL_freshBits_2 : decode cL_freshBits 2 = .ok (.aload_n 0, 1) := by decide +kernel
theorem dL_freshBits_3 : decode cL_freshBits 3 = .ok (.iload_n 1, 1) := by decide +kernel
theorem dL_freshBits_4 : decode cL_freshBits 4 = .ok (.invokevirtual 54, 3) := by decide +kernel
theorem dL_freshBits_7 : decode cL_freshBits 7 = .ok (.i2l, 1) := by decide +kernel
theorem dL_freshBits_8 : decode cL_freshBits 8 = .ok (.lastore, 1) := by decide +kernel
theorem dL_freshBits_9 : decode cL_freshBits 9 = .ok (.goto 6, 3) := by decide +kernel
theorem dL_freshBits_12 : decode cL_freshBits 12 = .ok (.astore_n 3, 1) := by decide +kernel
theorem dL_freshBits_13 : decode cL_freshBits 13 = .ok (.iconst 1, 1) := by decide +kernel
theorem dL_freshBits_14 : decode cL_freshBits 14 = .ok (.ireturn, 1) := by decide +kernel
theorem dL_freshBits_15 : decode cL_freshBits 15 = .ok (.iconst 0, 1) := by decide +kernel
theorem dL_freshBits_16 : decode cL_freshBits 16 = .ok (.ireturn, 1) := by decide +kernel
theorem dL_ice_0 : decode cL_ice 0 = .ok (.aload_n 3, 1) := by decide +kernel
theorem dL_ice_1 : decode cL_ice 1 = .ok (.iconst 0, 1) := by decide +kernel
theorem dL_ice_2 : decode cL_ice 2 = .ok (.aload_n 0, 1) := by decide +kernel
theorem dL_ice_3 : decode cL_ice 3 = .ok (.iload_n 1, 1) := by decide +kernel
theorem dL_ice_4 : decode cL_ice 4 = .ok (.iload_n 2, 1) := by decide +kernel
theorem dL_ice_5 : decode cL_ice 5 = .ok (.invokevirtual 57, 3) := by decide +kernel
theorem dL_ice_8 : decode cL_ice 8 = .ok (.i2l, 1) := by decide +kernel
theorem dL_ice_9 : decode cL_ice 9 = .ok (.lastore, 1) := by decide +kernel
theorem dL_ice_10 : decode cL_ice 10 = .ok (.goto 15, 3) := by decide +kernel
theorem dL_ice_13 : decode cL_ice 13 = .ok (.astore 4, 2) := by decide +kernel
theorem dL_ice_15 : decode cL_ice 15 = .ok (.iconst 1, 1) := by decide +kernel
theorem dL_ice_16 : decode cL_ice 16 = .ok (.ireturn, 1) := by decide +kernel
theorem dL_ice_17 : decode cL_ice 17 = .ok (.astore 4, 2) := by decide +kernel
theorem dL_ice_19 : decode cL_ice 19 = .ok (.iconst 2, 1) := by decide +kernel
theorem dL_ice_20 : decode cL_ice 20 = .ok (.ireturn, 1) := by decide +kernel
theorem dL_ice_21 : decode cL_ice 21 = .ok (.astore 4, 2) := by decide +kernel
theorem dL_ice_23 : decode cL_ice 23 = .ok (.iconst 3, 1) := by decide +kernel
theorem dL_ice_24 : decode cL_ice 24 = .ok (.ireturn, 1) := by decide +kernel
theorem dL_ice_25 : decode cL_ice 25 = .ok (.iconst 0, 1) := by decide +kernel
theorem dL_ice_26 : decode cL_ice 26 = .ok (.ireturn, 1) := by decide +kernel
theorem dL_iceOn_0 : decode cL_iceOn 0 = .ok (.aload_n 2, 1) := by decide +kernel
theorem dL_iceOn_1 : decode cL_iceOn 1 = .ok (.iconst 0, 1) := by decide +kernel
theorem dL_iceOn_2 : decode cL_iceOn 2 = .ok (.aload_n 0, 1) := by decide +kernel
theorem dL_iceOn_3 : decode cL_iceOn 3 = .ok (.iload_n 1, 1) := by decide +kernel
theorem dL_iceOn_4 : decode cL_iceOn 4 = .ok (.invokevirtual 60, 3) := by decide +kernel
theorem dL_iceOn_7 : decode cL_iceOn 7 = .ok (.i2l, 1) := by decide +kernel
theorem dL_iceOn_8 : decode cL_iceOn 8 = .ok (.lastore, 1) := by decide +kernel
theorem dL_iceOn_9 : decode cL_iceOn 9 = .ok (.goto 6, 3) := by decide +kernel
theorem dL_iceOn_12 : decode cL_iceOn 12 = .ok (.astore_n 3, 1) := by decide +kernel
theorem dL_iceOn_13 : decode cL_iceOn 13 = .ok (.iconst 1, 1) := by decide +kernel
theorem dL_iceOn_14 : decode cL_iceOn 14 = .ok (.ireturn, 1) := by decide +kernel
theorem dL_iceOn_15 : decode cL_iceOn 15 = .ok (.iconst 0, 1) := by decide +kernel
theorem dL_iceOn_16 : decode cL_iceOn 16 = .ok (.ireturn, 1) := by decide +kernel
theorem dL_iceLasts_0 : decode cL_iceLasts 0 = .ok (.aload_n 2, 1) := by decide +kernel
theorem dL_iceLasts_1 : decode cL_iceLasts 1 = .ok (.iconst 0, 1) := by decide +kernel
theorem dL_iceLasts_2 : decode cL_iceLasts 2 = .ok (.aload_n 0, 1) := by decide +kernel
theorem dL_iceLasts_3 : decode cL_iceLasts 3 = .ok (.iload_n 1, 1) := by decide +kernel
theorem dL_iceLasts_4 : decode cL_iceLasts 4 = .ok (.invokevirtual 63, 3) := by decide +kernel
theorem dL_iceLasts_7 : decode cL_iceLasts 7 = .ok (.i2l, 1) := by decide +kernel
theorem dL_iceLasts_8 : decode cL_iceLasts 8 = .ok (.lastore, 1) := by decide +kernel
theorem dL_iceLasts_9 : decode cL_iceLasts 9 = .ok (.goto 6, 3) := by decide +kernel
theorem dL_iceLasts_12 : decode cL_iceLasts 12 = .ok (.astore_n 3, 1) := by decide +kernel
theorem dL_iceLasts_13 : decode cL_iceLasts 13 = .ok (.iconst 1, 1) := by decide +kernel
theorem dL_iceLasts_14 : decode cL_iceLasts 14 = .ok (.ireturn, 1) := by decide +kernel
theorem dL_iceLasts_15 : decode cL_iceLasts 15 = .ok (.iconst 0, 1) := by decide +kernel
theorem dL_iceLasts_16 : decode cL_iceLasts 16 = .ok (.ireturn, 1) := by decide +kernel
theorem dL_addBuyer_0 : decode cL_addBuyer 0 = .ok (.aload_n 2, 1) := by decide +kernel
theorem dL_addBuyer_1 : decode cL_addBuyer 1 = .ok (.iconst 0, 1) := by decide +kernel
theorem dL_addBuyer_2 : decode cL_addBuyer 2 = .ok (.aload_n 0, 1) := by decide +kernel
theorem dL_addBuyer_3 : decode cL_addBuyer 3 = .ok (.iload_n 1, 1) := by decide +kernel
theorem dL_addBuyer_4 : decode cL_addBuyer 4 = .ok (.invokevirtual 66, 3) := by decide +kernel
theorem dL_addBuyer_7 : decode cL_addBuyer 7 = .ok (.i2l, 1) := by decide +kernel
theorem dL_addBuyer_8 : decode cL_addBuyer 8 = .ok (.lastore, 1) := by decide +kernel
theorem dL_addBuyer_9 : decode cL_addBuyer 9 = .ok (.goto 9, 3) := by decide +kernel
theorem dL_addBuyer_12 : decode cL_addBuyer 12 = .ok (.astore_n 3, 1) := by decide +kernel
theorem dL_addBuyer_13 : decode cL_addBuyer 13 = .ok (.iconst 1, 1) := by decide +kernel
theorem dL_addBuyer_14 : decode cL_addBuyer 14 = .ok (.ireturn, 1) := by decide +kernel
theorem dL_addBuyer_15 : decode cL_addBuyer 15 = .ok (.astore_n 3, 1) := by decide +kernel
theorem dL_addBuyer_16 : decode cL_addBuyer 16 = .ok (.iconst 2, 1) := by decide +kernel
theorem dL_addBuyer_17 : decode cL_addBuyer 17 = .ok (.ireturn, 1) := by decide +kernel
theorem dL_addBuyer_18 : decode cL_addBuyer 18 = .ok (.iconst 0, 1) := by decide +kernel
theorem dL_addBuyer_19 : decode cL_addBuyer 19 = .ok (.ireturn, 1) := by decide +kernel
theorem dL_setLimit_0 : decode cL_setLimit 0 = .ok (.aload 4, 2) := by decide +kernel
theorem dL_setLimit_2 : decode cL_setLimit 2 = .ok (.iconst 0, 1) := by decide +kernel
theorem dL_setLimit_3 : decode cL_setLimit 3 = .ok (.aload_n 0, 1) := by decide +kernel
theorem dL_setLimit_4 : decode cL_setLimit 4 = .ok (.iload_n 1, 1) := by decide +kernel
theorem dL_setLimit_5 : decode cL_setLimit 5 = .ok (.iload_n 2, 1) := by decide +kernel
theorem dL_setLimit_6 : decode cL_setLimit 6 = .ok (.iload_n 3, 1) := by decide +kernel
theorem dL_setLimit_7 : decode cL_setLimit 7 = .ok (.invokevirtual 69, 3) := by decide +kernel
theorem dL_setLimit_10 : decode cL_setLimit 10 = .ok (.i2l, 1) := by decide +kernel
theorem dL_setLimit_11 : decode cL_setLimit 11 = .ok (.lastore, 1) := by decide +kernel
theorem dL_setLimit_12 : decode cL_setLimit 12 = .ok (.goto 11, 3) := by decide +kernel
theorem dL_setLimit_15 : decode cL_setLimit 15 = .ok (.astore 5, 2) := by decide +kernel
theorem dL_setLimit_17 : decode cL_setLimit 17 = .ok (.iconst 1, 1) := by decide +kernel
theorem dL_setLimit_18 : decode cL_setLimit 18 = .ok (.ireturn, 1) := by decide +kernel
theorem dL_setLimit_19 : decode cL_setLimit 19 = .ok (.astore 5, 2) := by decide +kernel
theorem dL_setLimit_21 : decode cL_setLimit 21 = .ok (.iconst 2, 1) := by decide +kernel
theorem dL_setLimit_22 : decode cL_setLimit 22 = .ok (.ireturn, 1) := by decide +kernel
theorem dL_setLimit_23 : decode cL_setLimit 23 = .ok (.iconst 0, 1) := by decide +kernel
theorem dL_setLimit_24 : decode cL_setLimit 24 = .ok (.ireturn, 1) := by decide +kernel
theorem dL_budget_0 : decode cL_budget 0 = .ok (.aload_n 2, 1) := by decide +kernel
theorem dL_budget_1 : decode cL_budget 1 = .ok (.iconst 0, 1) := by decide +kernel
theorem dL_budget_2 : decode cL_budget 2 = .ok (.aload_n 0, 1) := by decide +kernel
theorem dL_budget_3 : decode cL_budget 3 = .ok (.iload_n 1, 1) := by decide +kernel
theorem dL_budget_4 : decode cL_budget 4 = .ok (.invokevirtual 72, 3) := by decide +kernel
theorem dL_budget_7 : decode cL_budget 7 = .ok (.i2l, 1) := by decide +kernel
theorem dL_budget_8 : decode cL_budget 8 = .ok (.lastore, 1) := by decide +kernel
theorem dL_budget_9 : decode cL_budget 9 = .ok (.goto 6, 3) := by decide +kernel
theorem dL_budget_12 : decode cL_budget 12 = .ok (.astore_n 3, 1) := by decide +kernel
theorem dL_budget_13 : decode cL_budget 13 = .ok (.iconst 1, 1) := by decide +kernel
theorem dL_budget_14 : decode cL_budget 14 = .ok (.ireturn, 1) := by decide +kernel
theorem dL_budget_15 : decode cL_budget 15 = .ok (.iconst 0, 1) := by decide +kernel
theorem dL_budget_16 : decode cL_budget 16 = .ok (.ireturn, 1) := by decide +kernel
theorem dL_setClock_0 : decode cL_setClock 0 = .ok (.aload 4, 2) := by decide +kernel
theorem dL_setClock_2 : decode cL_setClock 2 = .ok (.iconst 0, 1) := by decide +kernel
theorem dL_setClock_3 : decode cL_setClock 3 = .ok (.aload_n 0, 1) := by decide +kernel
theorem dL_setClock_4 : decode cL_setClock 4 = .ok (.iload_n 1, 1) := by decide +kernel
theorem dL_setClock_5 : decode cL_setClock 5 = .ok (.iload_n 2, 1) := by decide +kernel
theorem dL_setClock_6 : decode cL_setClock 6 = .ok (.iload_n 3, 1) := by decide +kernel
theorem dL_setClock_7 : decode cL_setClock 7 = .ok (.invokevirtual 75, 3) := by decide +kernel
theorem dL_setClock_10 : decode cL_setClock 10 = .ok (.i2l, 1) := by decide +kernel
theorem dL_setClock_11 : decode cL_setClock 11 = .ok (.lastore, 1) := by decide +kernel
theorem dL_setClock_12 : decode cL_setClock 12 = .ok (.goto 7, 3) := by decide +kernel
theorem dL_setClock_15 : decode cL_setClock 15 = .ok (.astore 5, 2) := by decide +kernel
theorem dL_setClock_17 : decode cL_setClock 17 = .ok (.iconst 1, 1) := by decide +kernel
theorem dL_setClock_18 : decode cL_setClock 18 = .ok (.ireturn, 1) := by decide +kernel
theorem dL_setClock_19 : decode cL_setClock 19 = .ok (.iconst 0, 1) := by decide +kernel
theorem dL_setClock_20 : decode cL_setClock 20 = .ok (.ireturn, 1) := by decide +kernel
theorem dL_offer_0 : decode cL_offer 0 = .ok (.aload_n 3, 1) := by decide +kernel
theorem dL_offer_1 : decode cL_offer 1 = .ok (.iconst 0, 1) := by decide +kernel
theorem dL_offer_2 : decode cL_offer 2 = .ok (.aload_n 0, 1) := by decide +kernel
theorem dL_offer_3 : decode cL_offer 3 = .ok (.iload_n 1, 1) := by decide +kernel
theorem dL_offer_4 : decode cL_offer 4 = .ok (.iload_n 2, 1) := by decide +kernel
theorem dL_offer_5 : decode cL_offer 5 = .ok (.invokevirtual 78, 3) := by decide +kernel
theorem dL_offer_8 : decode cL_offer 8 = .ok (.i2l, 1) := by decide +kernel
theorem dL_offer_9 : decode cL_offer 9 = .ok (.lastore, 1) := by decide +kernel
theorem dL_offer_10 : decode cL_offer 10 = .ok (.goto 11, 3) := by decide +kernel
theorem dL_offer_13 : decode cL_offer 13 = .ok (.astore 4, 2) := by decide +kernel
theorem dL_offer_15 : decode cL_offer 15 = .ok (.iconst 1, 1) := by decide +kernel
theorem dL_offer_16 : decode cL_offer 16 = .ok (.ireturn, 1) := by decide +kernel
theorem dL_offer_17 : decode cL_offer 17 = .ok (.astore 4, 2) := by decide +kernel
theorem dL_offer_19 : decode cL_offer 19 = .ok (.iconst 2, 1) := by decide +kernel
theorem dL_offer_20 : decode cL_offer 20 = .ok (.ireturn, 1) := by decide +kernel
theorem dL_offer_21 : decode cL_offer 21 = .ok (.iconst 0, 1) := by decide +kernel
theorem dL_offer_22 : decode cL_offer 22 = .ok (.ireturn, 1) := by decide +kernel
theorem dL_price_0 : decode cL_price 0 = .ok (.aload_n 2, 1) := by decide +kernel
theorem dL_price_1 : decode cL_price 1 = .ok (.iconst 0, 1) := by decide +kernel
theorem dL_price_2 : decode cL_price 2 = .ok (.aload_n 0, 1) := by decide +kernel
theorem dL_price_3 : decode cL_price 3 = .ok (.iload_n 1, 1) := by decide +kernel
theorem dL_price_4 : decode cL_price 4 = .ok (.invokevirtual 81, 3) := by decide +kernel
theorem dL_price_7 : decode cL_price 7 = .ok (.i2l, 1) := by decide +kernel
theorem dL_price_8 : decode cL_price 8 = .ok (.lastore, 1) := by decide +kernel
theorem dL_price_9 : decode cL_price 9 = .ok (.goto 12, 3) := by decide +kernel
theorem dL_price_12 : decode cL_price 12 = .ok (.astore_n 3, 1) := by decide +kernel
theorem dL_price_13 : decode cL_price 13 = .ok (.iconst 1, 1) := by decide +kernel
theorem dL_price_14 : decode cL_price 14 = .ok (.ireturn, 1) := by decide +kernel
theorem dL_price_15 : decode cL_price 15 = .ok (.astore_n 3, 1) := by decide +kernel
theorem dL_price_16 : decode cL_price 16 = .ok (.iconst 2, 1) := by decide +kernel
theorem dL_price_17 : decode cL_price 17 = .ok (.ireturn, 1) := by decide +kernel
theorem dL_price_18 : decode cL_price 18 = .ok (.astore_n 3, 1) := by decide +kernel
theorem dL_price_19 : decode cL_price 19 = .ok (.iconst 3, 1) := by decide +kernel
theorem dL_price_20 : decode cL_price 20 = .ok (.ireturn, 1) := by decide +kernel
theorem dL_price_21 : decode cL_price 21 = .ok (.iconst 0, 1) := by decide +kernel
theorem dL_price_22 : decode cL_price 22 = .ok (.ireturn, 1) := by decide +kernel
theorem dL_priceByBuyers_0 : decode cL_priceByBuyers 0 = .ok (.aload_n 2, 1) := by decide +kernel
theorem dL_priceByBuyers_1 : decode cL_priceByBuyers 1 = .ok (.iconst 0, 1) := by decide +kernel
theorem dL_priceByBuyers_2 : decode cL_priceByBuyers 2 = .ok (.aload_n 0, 1) := by decide +kernel
theorem dL_priceByBuyers_3 : decode cL_priceByBuyers 3 = .ok (.iload_n 1, 1) := by decide +kernel
theorem dL_priceByBuyers_4 : decode cL_priceByBuyers 4 = .ok (.invokevirtual 84, 3) := by decide +kernel
theorem dL_priceByBuyers_7 : decode cL_priceByBuyers 7 = .ok (.i2l, 1) := by decide +kernel
theorem dL_priceByBuyers_8 : decode cL_priceByBuyers 8 = .ok (.lastore, 1) := by decide +kernel
theorem dL_priceByBuyers_9 : decode cL_priceByBuyers 9 = .ok (.goto 12, 3) := by decide +kernel
theorem dL_priceByBuyers_12 : decode cL_priceByBuyers 12 = .ok (.astore_n 3, 1) := by decide +kernel
theorem dL_priceByBuyers_13 : decode cL_priceByBuyers 13 = .ok (.iconst 1, 1) := by decide +kernel
theorem dL_priceByBuyers_14 : decode cL_priceByBuyers 14 = .ok (.ireturn, 1) := by decide +kernel
theorem dL_priceByBuyers_15 : decode cL_priceByBuyers 15 = .ok (.astore_n 3, 1) := by decide +kernel
theorem dL_priceByBuyers_16 : decode cL_priceByBuyers 16 = .ok (.iconst 2, 1) := by decide +kernel
theorem dL_priceByBuyers_17 : decode cL_priceByBuyers 17 = .ok (.ireturn, 1) := by decide +kernel
theorem dL_priceByBuyers_18 : decode cL_priceByBuyers 18 = .ok (.astore_n 3, 1) := by decide +kernel
theorem dL_priceByBuyers_19 : decode cL_priceByBuyers 19 = .ok (.iconst 3, 1) := by decide +kernel
theorem dL_priceByBuyers_20 : decode cL_priceByBuyers 20 = .ok (.ireturn, 1) := by decide +kernel
theorem dL_priceByBuyers_21 : decode cL_priceByBuyers 21 = .ok (.iconst 0, 1) := by decide +kernel
theorem dL_priceByBuyers_22 : decode cL_priceByBuyers 22 = .ok (.ireturn, 1) := by decide +kernel
theorem dL_sell_0 : decode cL_sell 0 = .ok (.aload_n 2, 1) := by decide +kernel
theorem dL_sell_1 : decode cL_sell 1 = .ok (.iconst 0, 1) := by decide +kernel
theorem dL_sell_2 : decode cL_sell 2 = .ok (.aload_n 0, 1) := by decide +kernel
theorem dL_sell_3 : decode cL_sell 3 = .ok (.iload_n 1, 1) := by decide +kernel
theorem dL_sell_4 : decode cL_sell 4 = .ok (.invokevirtual 87, 3) := by decide +kernel
theorem dL_sell_7 : decode cL_sell 7 = .ok (.i2l, 1) := by decide +kernel
theorem dL_sell_8 : decode cL_sell 8 = .ok (.lastore, 1) := by decide +kernel
theorem dL_sell_9 : decode cL_sell 9 = .ok (.goto 12, 3) := by decide +kernel
theorem dL_sell_12 : decode cL_sell 12 = .ok (.astore_n 3, 1) := by decide +kernel
theorem dL_sell_13 : decode cL_sell 13 = .ok (.iconst 1, 1) := by decide +kernel
theorem dL_sell_14 : decode cL_sell 14 = .ok (.ireturn, 1) := by decide +kernel
theorem dL_sell_15 : decode cL_sell 15 = .ok (.astore_n 3, 1) := by decide +kernel
theorem dL_sell_16 : decode cL_sell 16 = .ok (.iconst 2, 1) := by decide +kernel
theorem dL_sell_17 : decode cL_sell 17 = .ok (.ireturn, 1) := by decide +kernel
theorem dL_sell_18 : decode cL_sell 18 = .ok (.astore_n 3, 1) := by decide +kernel
theorem dL_sell_19 : decode cL_sell 19 = .ok (.iconst 3, 1) := by decide +kernel
theorem dL_sell_20 : decode cL_sell 20 = .ok (.ireturn, 1) := by decide +kernel
theorem dL_sell_21 : decode cL_sell 21 = .ok (.iconst 0, 1) := by decide +kernel
theorem dL_sell_22 : decode cL_sell 22 = .ok (.ireturn, 1) := by decide +kernel
theorem dL_buyerOf_0 : decode cL_buyerOf 0 = .ok (.aload_n 2, 1) := by decide +kernel
theorem dL_buyerOf_1 : decode cL_buyerOf 1 = .ok (.iconst 0, 1) := by decide +kernel
theorem dL_buyerOf_2 : decode cL_buyerOf 2 = .ok (.aload_n 0, 1) := by decide +kernel
theorem dL_buyerOf_3 : decode cL_buyerOf 3 = .ok (.iload_n 1, 1) := by decide +kernel
theorem dL_buyerOf_4 : decode cL_buyerOf 4 = .ok (.invokevirtual 90, 3) := by decide +kernel
theorem dL_buyerOf_7 : decode cL_buyerOf 7 = .ok (.i2l, 1) := by decide +kernel
theorem dL_buyerOf_8 : decode cL_buyerOf 8 = .ok (.lastore, 1) := by decide +kernel
theorem dL_buyerOf_9 : decode cL_buyerOf 9 = .ok (.goto 6, 3) := by decide +kernel
theorem dL_buyerOf_12 : decode cL_buyerOf 12 = .ok (.astore_n 3, 1) := by decide +kernel
theorem dL_buyerOf_13 : decode cL_buyerOf 13 = .ok (.iconst 1, 1) := by decide +kernel
theorem dL_buyerOf_14 : decode cL_buyerOf 14 = .ok (.ireturn, 1) := by decide +kernel
theorem dL_buyerOf_15 : decode cL_buyerOf 15 = .ok (.iconst 0, 1) := by decide +kernel
theorem dL_buyerOf_16 : decode cL_buyerOf 16 = .ok (.ireturn, 1) := by decide +kernel
theorem dL_paidFor_0 : decode cL_paidFor 0 = .ok (.aload_n 2, 1) := by decide +kernel
theorem dL_paidFor_1 : decode cL_paidFor 1 = .ok (.iconst 0, 1) := by decide +kernel
theorem dL_paidFor_2 : decode cL_paidFor 2 = .ok (.aload_n 0, 1) := by decide +kernel
theorem dL_paidFor_3 : decode cL_paidFor 3 = .ok (.iload_n 1, 1) := by decide +kernel
theorem dL_paidFor_4 : decode cL_paidFor 4 = .ok (.invokevirtual 93, 3) := by decide +kernel
theorem dL_paidFor_7 : decode cL_paidFor 7 = .ok (.i2l, 1) := by decide +kernel
theorem dL_paidFor_8 : decode cL_paidFor 8 = .ok (.lastore, 1) := by decide +kernel
theorem dL_paidFor_9 : decode cL_paidFor 9 = .ok (.goto 6, 3) := by decide +kernel
theorem dL_paidFor_12 : decode cL_paidFor 12 = .ok (.astore_n 3, 1) := by decide +kernel
theorem dL_paidFor_13 : decode cL_paidFor 13 = .ok (.iconst 1, 1) := by decide +kernel
theorem dL_paidFor_14 : decode cL_paidFor 14 = .ok (.ireturn, 1) := by decide +kernel
theorem dL_paidFor_15 : decode cL_paidFor 15 = .ok (.iconst 0, 1) := by decide +kernel
theorem dL_paidFor_16 : decode cL_paidFor 16 = .ok (.ireturn, 1) := by decide +kernel
theorem dL_addTruck_0 : decode cL_addTruck 0 = .ok (.aload 4, 2) := by decide +kernel
theorem dL_addTruck_2 : decode cL_addTruck 2 = .ok (.iconst 0, 1) := by decide +kernel
theorem dL_addTruck_3 : decode cL_addTruck 3 = .ok (.aload_n 0, 1) := by decide +kernel
theorem dL_addTruck_4 : decode cL_addTruck 4 = .ok (.iload_n 1, 1) := by decide +kernel
theorem dL_addTruck_5 : decode cL_addTruck 5 = .ok (.iload_n 2, 1) := by decide +kernel
theorem dL_addTruck_6 : decode cL_addTruck 6 = .ok (.iload_n 3, 1) := by decide +kernel
theorem dL_addTruck_7 : decode cL_addTruck 7 = .ok (.invokevirtual 96, 3) := by decide +kernel
theorem dL_addTruck_10 : decode cL_addTruck 10 = .ok (.i2l, 1) := by decide +kernel
theorem dL_addTruck_11 : decode cL_addTruck 11 = .ok (.lastore, 1) := by decide +kernel
theorem dL_addTruck_12 : decode cL_addTruck 12 = .ok (.goto 11, 3) := by decide +kernel
theorem dL_addTruck_15 : decode cL_addTruck 15 = .ok (.astore 5, 2) := by decide +kernel
theorem dL_addTruck_17 : decode cL_addTruck 17 = .ok (.iconst 1, 1) := by decide +kernel
theorem dL_addTruck_18 : decode cL_addTruck 18 = .ok (.ireturn, 1) := by decide +kernel
theorem dL_addTruck_19 : decode cL_addTruck 19 = .ok (.astore 5, 2) := by decide +kernel
theorem dL_addTruck_21 : decode cL_addTruck 21 = .ok (.iconst 2, 1) := by decide +kernel
theorem dL_addTruck_22 : decode cL_addTruck 22 = .ok (.ireturn, 1) := by decide +kernel
theorem dL_addTruck_23 : decode cL_addTruck 23 = .ok (.iconst 0, 1) := by decide +kernel
theorem dL_addTruck_24 : decode cL_addTruck 24 = .ok (.ireturn, 1) := by decide +kernel
theorem dL_load_0 : decode cL_load 0 = .ok (.aload_n 3, 1) := by decide +kernel
theorem dL_load_1 : decode cL_load 1 = .ok (.iconst 0, 1) := by decide +kernel
theorem dL_load_2 : decode cL_load 2 = .ok (.aload_n 0, 1) := by decide +kernel
theorem dL_load_3 : decode cL_load 3 = .ok (.iload_n 1, 1) := by decide +kernel
theorem dL_load_4 : decode cL_load 4 = .ok (.iload_n 2, 1) := by decide +kernel
theorem dL_load_5 : decode cL_load 5 = .ok (.invokevirtual 100, 3) := by decide +kernel
theorem dL_load_8 : decode cL_load 8 = .ok (.i2l, 1) := by decide +kernel
theorem dL_load_9 : decode cL_load 9 = .ok (.lastore, 1) := by decide +kernel
theorem dL_load_10 : decode cL_load 10 = .ok (.goto 19, 3) := by decide +kernel
theorem dL_load_13 : decode cL_load 13 = .ok (.astore 4, 2) := by decide +kernel
theorem dL_load_15 : decode cL_load 15 = .ok (.iconst 1, 1) := by decide +kernel
theorem dL_load_16 : decode cL_load 16 = .ok (.ireturn, 1) := by decide +kernel
theorem dL_load_17 : decode cL_load 17 = .ok (.astore 4, 2) := by decide +kernel
theorem dL_load_19 : decode cL_load 19 = .ok (.iconst 2, 1) := by decide +kernel
theorem dL_load_20 : decode cL_load 20 = .ok (.ireturn, 1) := by decide +kernel
theorem dL_load_21 : decode cL_load 21 = .ok (.astore 4, 2) := by decide +kernel
theorem dL_load_23 : decode cL_load 23 = .ok (.iconst 3, 1) := by decide +kernel
theorem dL_load_24 : decode cL_load 24 = .ok (.ireturn, 1) := by decide +kernel
theorem dL_load_25 : decode cL_load 25 = .ok (.astore 4, 2) := by decide +kernel
theorem dL_load_27 : decode cL_load 27 = .ok (.iconst 4, 1) := by decide +kernel
theorem dL_load_28 : decode cL_load 28 = .ok (.ireturn, 1) := by decide +kernel
theorem dL_load_29 : decode cL_load 29 = .ok (.iconst 0, 1) := by decide +kernel
theorem dL_load_30 : decode cL_load 30 = .ok (.ireturn, 1) := by decide +kernel
theorem dL_lotOn_0 : decode cL_lotOn 0 = .ok (.aload_n 3, 1) := by decide +kernel
theorem dL_lotOn_1 : decode cL_lotOn 1 = .ok (.iconst 0, 1) := by decide +kernel
theorem dL_lotOn_2 : decode cL_lotOn 2 = .ok (.aload_n 0, 1) := by decide +kernel
theorem dL_lotOn_3 : decode cL_lotOn 3 = .ok (.iload_n 1, 1) := by decide +kernel
theorem dL_lotOn_4 : decode cL_lotOn 4 = .ok (.iload_n 2, 1) := by decide +kernel
theorem dL_lotOn_5 : decode cL_lotOn 5 = .ok (.invokevirtual 103, 3) := by decide +kernel
theorem dL_lotOn_8 : decode cL_lotOn 8 = .ok (.i2l, 1) := by decide +kernel
theorem dL_lotOn_9 : decode cL_lotOn 9 = .ok (.lastore, 1) := by decide +kernel
theorem dL_lotOn_10 : decode cL_lotOn 10 = .ok (.goto 11, 3) := by decide +kernel
theorem dL_lotOn_13 : decode cL_lotOn 13 = .ok (.astore 4, 2) := by decide +kernel
theorem dL_lotOn_15 : decode cL_lotOn 15 = .ok (.iconst 1, 1) := by decide +kernel
theorem dL_lotOn_16 : decode cL_lotOn 16 = .ok (.ireturn, 1) := by decide +kernel
theorem dL_lotOn_17 : decode cL_lotOn 17 = .ok (.astore 4, 2) := by decide +kernel
theorem dL_lotOn_19 : decode cL_lotOn 19 = .ok (.iconst 2, 1) := by decide +kernel
theorem dL_lotOn_20 : decode cL_lotOn 20 = .ok (.ireturn, 1) := by decide +kernel
theorem dL_lotOn_21 : decode cL_lotOn 21 = .ok (.iconst 0, 1) := by decide +kernel
theorem dL_lotOn_22 : decode cL_lotOn 22 = .ok (.ireturn, 1) := by decide +kernel
theorem dL_soldShare_0 : decode cL_soldShare 0 = .ok (.aload_n 1, 1) := by decide +kernel
theorem dL_soldShare_1 : decode cL_soldShare 1 = .ok (.iconst 0, 1) := by decide +kernel
theorem dL_soldShare_2 : decode cL_soldShare 2 = .ok (.aload_n 0, 1) := by decide +kernel
theorem dL_soldShare_3 : decode cL_soldShare 3 = .ok (.invokevirtual 106, 3) := by decide +kernel
theorem dL_soldShare_6 : decode cL_soldShare 6 = .ok (.f2d, 1) := by decide +kernel
theorem dL_soldShare_7 : decode cL_soldShare 7 = .ok (.dastore, 1) := by decide +kernel
theorem dL_soldShare_8 : decode cL_soldShare 8 = .ok (.goto 6, 3) := by decide +kernel
theorem dL_soldShare_11 : decode cL_soldShare 11 = .ok (.astore_n 2, 1) := by decide +kernel
theorem dL_soldShare_12 : decode cL_soldShare 12 = .ok (.iconst 1, 1) := by decide +kernel
theorem dL_soldShare_13 : decode cL_soldShare 13 = .ok (.ireturn, 1) := by decide +kernel
theorem dL_soldShare_14 : decode cL_soldShare 14 = .ok (.iconst 0, 1) := by decide +kernel
theorem dL_soldShare_15 : decode cL_soldShare 15 = .ok (.ireturn, 1) := by decide +kernel
theorem dL_meanPrice_0 : decode cL_meanPrice 0 = .ok (.aload_n 1, 1) := by decide +kernel
theorem dL_meanPrice_1 : decode cL_meanPrice 1 = .ok (.iconst 0, 1) := by decide +kernel
theorem dL_meanPrice_2 : decode cL_meanPrice 2 = .ok (.aload_n 0, 1) := by decide +kernel
theorem dL_meanPrice_3 : decode cL_meanPrice 3 = .ok (.invokevirtual 112, 3) := by decide +kernel
theorem dL_meanPrice_6 : decode cL_meanPrice 6 = .ok (.dastore, 1) := by decide +kernel
theorem dL_meanPrice_7 : decode cL_meanPrice 7 = .ok (.goto 6, 3) := by decide +kernel
theorem dL_meanPrice_10 : decode cL_meanPrice 10 = .ok (.astore_n 2, 1) := by decide +kernel
theorem dL_meanPrice_11 : decode cL_meanPrice 11 = .ok (.iconst 1, 1) := by decide +kernel
theorem dL_meanPrice_12 : decode cL_meanPrice 12 = .ok (.ireturn, 1) := by decide +kernel
theorem dL_meanPrice_13 : decode cL_meanPrice 13 = .ok (.iconst 0, 1) := by decide +kernel
theorem dL_meanPrice_14 : decode cL_meanPrice 14 = .ok (.ireturn, 1) := by decide +kernel
theorem dL_meanBits_0 : decode cL_meanBits 0 = .ok (.aload_n 1, 1) := by decide +kernel
theorem dL_meanBits_1 : decode cL_meanBits 1 = .ok (.iconst 0, 1) := by decide +kernel
theorem dL_meanBits_2 : decode cL_meanBits 2 = .ok (.aload_n 0, 1) := by decide +kernel
theorem dL_meanBits_3 : decode cL_meanBits 3 = .ok (.invokevirtual 116, 3) := by decide +kernel
theorem dL_meanBits_6 : decode cL_meanBits 6 = .ok (.lastore, 1) := by decide +kernel
theorem dL_meanBits_7 : decode cL_meanBits 7 = .ok (.goto 6, 3) := by decide +kernel
theorem dL_meanBits_10 : decode cL_meanBits 10 = .ok (.astore_n 2, 1) := by decide +kernel
theorem dL_meanBits_11 : decode cL_meanBits 11 = .ok (.iconst 1, 1) := by decide +kernel
theorem dL_meanBits_12 : decode cL_meanBits 12 = .ok (.ireturn, 1) := by decide +kernel
theorem dL_meanBits_13 : decode cL_meanBits 13 = .ok (.iconst 0, 1) := by decide +kernel
theorem dL_meanBits_14 : decode cL_meanBits 14 = .ok (.ireturn, 1) := by decide +kernel
theorem dL_law_0 : decode cL_law 0 = .ok (.new 8, 3) := by decide +kernel
theorem dL_law_3 : decode cL_law 3 = .ok (.dup, 1) := by decide +kernel
theorem dL_law_4 : decode cL_law 4 = .ok (.invokespecial 120, 3) := by decide +kernel
theorem dL_law_7 : decode cL_law 7 = .ok (.astore_n 1, 1) := by decide +kernel
theorem dL_law_8 : decode cL_law 8 = .ok (.new 121, 3) := by decide +kernel
theorem dL_law_11 : decode cL_law 11 = .ok (.dup, 1) := by decide +kernel
theorem dL_law_12 : decode cL_law 12 = .ok (.invokespecial 123, 3) := by decide +kernel
theorem dL_law_15 : decode cL_law 15 = .ok (.astore_n 2, 1) := by decide +kernel
theorem dL_law_16 : decode cL_law 16 = .ok (.iconst 1, 1) := by decide +kernel
theorem dL_law_17 : decode cL_law 17 = .ok (.newarray .long, 2) := by decide +kernel
theorem dL_law_19 : decode cL_law 19 = .ok (.astore_n 3, 1) := by decide +kernel
theorem dL_law_20 : decode cL_law 20 = .ok (.iconst 1, 1) := by decide +kernel
theorem dL_law_21 : decode cL_law 21 = .ok (.newarray .double, 2) := by decide +kernel
theorem dL_law_23 : decode cL_law 23 = .ok (.astore 4, 2) := by decide +kernel
theorem dL_law_25 : decode cL_law 25 = .ok (.iconst 0, 1) := by decide +kernel
theorem dL_law_26 : decode cL_law 26 = .ok (.istore 5, 2) := by decide +kernel
theorem dL_law_28 : decode cL_law 28 = .ok (.iload 5, 2) := by decide +kernel
theorem dL_law_30 : decode cL_law 30 = .ok (.aload_n 0, 1) := by decide +kernel
theorem dL_law_31 : decode cL_law 31 = .ok (.arraylength, 1) := by decide +kernel
theorem dL_law_32 : decode cL_law 32 = .ok (.bipush 6, 2) := by decide +kernel
theorem dL_law_34 : decode cL_law 34 = .ok (.isub, 1) := by decide +kernel
theorem dL_law_35 : decode cL_law 35 = .ok (.if_icmp .gt 2216, 3) := by decide +kernel
theorem dL_law_38 : decode cL_law 38 = .ok (.aload_n 0, 1) := by decide +kernel
theorem dL_law_39 : decode cL_law 39 = .ok (.iload 5, 2) := by decide +kernel
theorem dL_law_41 : decode cL_law 41 = .ok (.iaload, 1) := by decide +kernel
theorem dL_law_42 : decode cL_law 42 = .ok (.bipush 63, 2) := by decide +kernel
theorem dL_law_44 : decode cL_law 44 = .ok (.iand, 1) := by decide +kernel
theorem dL_law_45 : decode cL_law 45 = .ok (.tableswitch 2200 0 35 #[159, 251, 371, 463, 531, 611, 655, 668, 724, 780, 858, 914, 982, 1038, 1094, 1107, 1120, 1176, 1256, 1312, 1392, 1460, 1516, 1572, 1628, 1684, 1740, 1836, 1904, 1972, 1986, 2000, 2013, 2079, 2144, 2187], 159) := by decide +kernel
theorem dL_law_204 : decode cL_law 204 = .ok (.aload_n 1, 1) := by decide +kernel
theorem dL_law_205 : decode cL_law 205 = .ok (.aload_n 0, 1) := by decide +kernel
theorem dL_law_206 : decode cL_law 206 = .ok (.iload 5, 2) := by decide +kernel
theorem dL_law_208 : decode cL_law 208 = .ok (.iconst 1, 1) := by decide +kernel
theorem dL_law_209 : decode cL_law 209 = .ok (.iadd, 1) := by decide +kernel
theorem dL_law_210 : decode cL_law 210 = .ok (.iaload, 1) := by decide +kernel
theorem dL_law_211 : decode cL_law 211 = .ok (.aload_n 0, 1) := by decide +kernel
theorem dL_law_212 : decode cL_law 212 = .ok (.iload 5, 2) := by decide +kernel
theorem dL_law_214 : decode cL_law 214 = .ok (.iconst 2, 1) := by decide +kernel
theorem dL_law_215 : decode cL_law 215 = .ok (.iadd, 1) := by decide +kernel
theorem dL_law_216 : decode cL_law 216 = .ok (.iaload, 1) := by decide +kernel
theorem dL_law_217 : decode cL_law 217 = .ok (.aload_n 0, 1) := by decide +kernel
theorem dL_law_218 : decode cL_law 218 = .ok (.iload 5, 2) := by decide +kernel
theorem dL_law_220 : decode cL_law 220 = .ok (.iconst 3, 1) := by decide +kernel
theorem dL_law_221 : decode cL_law 221 = .ok (.iadd, 1) := by decide +kernel
theorem dL_law_222 : decode cL_law 222 = .ok (.iaload, 1) := by decide +kernel
theorem dL_law_223 : decode cL_law 223 = .ok (.aload_n 0, 1) := by decide +kernel
theorem dL_law_224 : decode cL_law 224 = .ok (.iload 5, 2) := by decide +kernel
theorem dL_law_226 : decode cL_law 226 = .ok (.iconst 4, 1) := by decide +kernel
theorem dL_law_227 : decode cL_law 227 = .ok (.iadd, 1) := by decide +kernel
theorem dL_law_228 : decode cL_law 228 = .ok (.iaload, 1) := by decide +kernel
theorem dL_law_229 : decode cL_law 229 = .ok (.aload_n 3, 1) := by decide +kernel
theorem dL_law_230 : decode cL_law 230 = .ok (.invokestatic 124, 3) := by decide +kernel
theorem dL_law_233 : decode cL_law 233 = .ok (.istore 6, 2) := by decide +kernel
theorem dL_law_235 : decode cL_law 235 = .ok (.aload_n 2, 1) := by decide +kernel
theorem dL_law_236 : decode cL_law 236 = .ok (.aload_n 0, 1) := by decide +kernel
theorem dL_law_237 : decode cL_law 237 = .ok (.iload 5, 2) := by decide +kernel
theorem dL_law_239 : decode cL_law 239 = .ok (.iconst 1, 1) := by decide +kernel
theorem dL_law_240 : decode cL_law 240 = .ok (.iadd, 1) := by decide +kernel
theorem dL_law_241 : decode cL_law 241 = .ok (.iaload, 1) := by decide +kernel
theorem dL_law_242 : decode cL_law 242 = .ok (.aload_n 0, 1) := by decide +kernel
theorem dL_law_243 : decode cL_law 243 = .ok (.iload 5, 2) := by decide +kernel
theorem dL_law_245 : decode cL_law 245 = .ok (.iconst 2, 1) := by decide +kernel
theorem dL_law_246 : decode cL_law 246 = .ok (.iadd, 1) := by decide +kernel
theorem dL_law_247 : decode cL_law 247 = .ok (.iaload, 1) := by decide +kernel
theorem dL_law_248 : decode cL_law 248 = .ok (.aload_n 0, 1) := by decide +kernel
theorem dL_law_249 : decode cL_law 249 = .ok (.iload 5, 2) := by decide +kernel
theorem dL_law_251 : decode cL_law 251 = .ok (.iconst 3, 1) := by decide +kernel
theorem dL_law_252 : decode cL_law 252 = .ok (.iadd, 1) := by decide +kernel
theorem dL_law_253 : decode cL_law 253 = .ok (.iaload, 1) := by decide +kernel
theorem dL_law_254 : decode cL_law 254 = .ok (.aload_n 0, 1) := by decide +kernel
theorem dL_law_255 : decode cL_law 255 = .ok (.iload 5, 2) := by decide +kernel
theorem dL_law_257 : decode cL_law 257 = .ok (.iconst 4, 1) := by decide +kernel
theorem dL_law_258 : decode cL_law 258 = .ok (.iadd, 1) := by decide +kernel
theorem dL_law_259 : decode cL_law 259 = .ok (.iaload, 1) := by decide +kernel
theorem dL_law_260 : decode cL_law 260 = .ok (.invokevirtual 129, 3) := by decide +kernel
theorem dL_law_263 : decode cL_law 263 = .ok (.istore 7, 2) := by decide +kernel
theorem dL_law_265 : decode cL_law 265 = .ok (.aload_n 2, 1) := by decide +kernel
theorem dL_law_266 : decode cL_law 266 = .ok (.invokevirtual 130, 3) := by decide +kernel
theorem dL_law_269 : decode cL_law 269 = .ok (.iload 6, 2) := by decide +kernel
theorem dL_law_271 : decode cL_law 271 = .ok (.if_icmp .eq 5, 3) := by decide +kernel
theorem dL_law_274 : decode cL_law 274 = .ok (.iconst 0, 1) := by decide +kernel
theorem dL_law_275 : decode cL_law 275 = .ok (.ireturn, 1) := by decide +kernel
theorem dL_law_276 : decode cL_law 276 = .ok (.iload 6, 2) := by decide +kernel
theorem dL_law_278 : decode cL_law 278 = .ok (.ifCond .ne 15, 3) := by decide +kernel
theorem dL_law_281 : decode cL_law 281 = .ok (.aload_n 3, 1) := by decide +kernel
theorem dL_law_282 : decode cL_law 282 = .ok (.iconst 0, 1) := by decide +kernel
theorem dL_law_283 : decode cL_law 283 = .ok (.laload, 1) := by decide +kernel
theorem dL_law_284 : decode cL_law 284 = .ok (.iload 7, 2) := by decide +kernel
theorem dL_law_286 : decode cL_law 286 = .ok (.i2l, 1) := by decide +kernel
theorem dL_law_287 : decode cL_law 287 = .ok (.lcmp, 1) := by decide +kernel
theorem dL_law_288 : decode cL_law 288 = .ok (.ifCond .eq 5, 3) := by decide +kernel
theorem dL_law_291 : decode cL_law 291 = .ok (.iconst 0, 1) := by decide +kernel
theorem dL_law_292 : decode cL_law 292 = .ok (.ireturn, 1) := by decide +kernel
theorem dL_law_293 : decode cL_law 293 = .ok (.goto 1952, 3) := by decide +kernel
theorem dL_law_296 : decode cL_law 296 = .ok (.aload_n 1, 1) := by decide +kernel
theorem dL_law_297 : decode cL_law 297 = .ok (.aload_n 0, 1) := by decide +kernel
theorem dL_law_298 : decode cL_law 298 = .ok (.iload 5, 2) := by decide +kernel
theorem dL_law_300 : decode cL_law 300 = .ok (.iconst 1, 1) := by decide +kernel
theorem dL_law_301 : decode cL_law 301 = .ok (.iadd, 1) := by decide +kernel
theorem dL_law_302 : decode cL_law 302 = .ok (.iaload, 1) := by decide +kernel
theorem dL_law_303 : decode cL_law 303 = .ok (.aload_n 0, 1) := by decide +kernel
theorem dL_law_304 : decode cL_law 304 = .ok (.iload 5, 2) := by decide +kernel
theorem dL_law_306 : decode cL_law 306 = .ok (.iconst 2, 1) := by decide +kernel
theorem dL_law_307 : decode cL_law 307 = .ok (.iadd, 1) := by decide +kernel
theorem dL_law_308 : decode cL_law 308 = .ok (.iaload, 1) := by decide +kernel
theorem dL_law_309 : decode cL_law 309 = .ok (.aload_n 0, 1) := by decide +kernel
theorem dL_law_310 : decode cL_law 310 = .ok (.iload 5, 2) := by decide +kernel
theorem dL_law_312 : decode cL_law 312 = .ok (.iconst 3, 1) := by decide +kernel
theorem dL_law_313 : decode cL_law 313 = .ok (.iadd, 1) := by decide +kernel
theorem dL_law_314 : decode cL_law 314 = .ok (.iaload, 1) := by decide +kernel
theorem dL_law_315 : decode cL_law 315 = .ok (.aload_n 0, 1) := by decide +kernel
theorem dL_law_316 : decode cL_law 316 = .ok (.iload 5, 2) := by decide +kernel
theorem dL_law_318 : decode cL_law 318 = .ok (.iconst 4, 1) := by decide +kernel
theorem dL_law_319 : decode cL_law 319 = .ok (.iadd, 1) := by decide +kernel
theorem dL_law_320 : decode cL_law 320 = .ok (.iaload, 1) := by decide +kernel
theorem dL_law_321 : decode cL_law 321 = .ok (.aload_n 0, 1) := by decide +kernel
theorem dL_law_322 : decode cL_law 322 = .ok (.iload 5, 2) := by decide +kernel
theorem dL_law_324 : decode cL_law 324 = .ok (.iconst 5, 1) := by decide +kernel
theorem dL_law_325 : decode cL_law 325 = .ok (.iadd, 1) := by decide +kernel
theorem dL_law_326 : decode cL_law 326 = .ok (.iaload, 1) := by decide +kernel
theorem dL_law_327 : decode cL_law 327 = .ok (.ifCond .eq 7, 3) := by decide +kernel
theorem dL_law_330 : decode cL_law 330 = .ok (.iconst 1, 1) := by decide +kernel
theorem dL_law_331 : decode cL_law 331 = .ok (.goto 4, 3) := by decide +kernel
theorem dL_law_334 : decode cL_law 334 = .ok (.iconst 0, 1) := by decide +kernel
theorem dL_law_335 : decode cL_law 335 = .ok (.aload_n 3, 1) := by decide +kernel
theorem dL_law_336 : decode cL_law 336 = .ok (.invokestatic 133, 3) := by decide +kernel
theorem dL_law_339 : decode cL_law 339 = .ok (.istore 6, 2) := by decide +kernel
theorem dL_law_341 : decode cL_law 341 = .ok (.aload_n 2, 1) := by decide +kernel
theorem dL_law_342 : decode cL_law 342 = .ok (.aload_n 0, 1) := by decide +kernel
theorem dL_law_343 : decode cL_law 343 = .ok (.iload 5, 2) := by decide +kernel
theorem dL_law_345 : decode cL_law 345 = .ok (.iconst 1, 1) := by decide +kernel
theorem dL_law_346 : decode cL_law 346 = .ok (.iadd, 1) := by decide +kernel
theorem dL_law_347 : decode cL_law 347 = .ok (.iaload, 1) := by decide +kernel
theorem dL_law_348 : decode cL_law 348 = .ok (.aload_n 0, 1) := by decide +kernel
theorem dL_law_349 : decode cL_law 349 = .ok (.iload 5, 2) := by decide +kernel
theorem dL_law_351 : decode cL_law 351 = .ok (.iconst 2, 1) := by decide +kernel
theorem dL_law_352 : decode cL_law 352 = .ok (.iadd, 1) := by decide +kernel
theorem dL_law_353 : decode cL_law 353 = .ok (.iaload, 1) := by decide +kernel
theorem dL_law_354 : decode cL_law 354 = .ok (.aload_n 0, 1) := by decide +kernel
theorem dL_law_355 : decode cL_law 355 = .ok (.iload 5, 2) := by decide +kernel
theorem dL_law_357 : decode cL_law 357 = .ok (.iconst 3, 1) := by decide +kernel
theorem dL_law_358 : decode cL_law 358 = .ok (.iadd, 1) := by decide +kernel
theorem dL_law_359 : decode cL_law 359 = .ok (.iaload, 1) := by decide +kernel
theorem dL_law_360 : decode cL_law 360 = .ok (.aload_n 0, 1) := by decide +kernel
theorem dL_law_361 : decode cL_law 361 = .ok (.iload 5, 2) := by decide +kernel
theorem dL_law_363 : decode cL_law 363 = .ok (.iconst 4, 1) := by decide +kernel
theorem dL_law_364 : decode cL_law 364 = .ok (.iadd, 1) := by decide +kernel
theorem dL_law_365 : decode cL_law 365 = .ok (.iaload, 1) := by decide +kernel
theorem dL_law_366 : decode cL_law 366 = .ok (.aload_n 0, 1) := by decide +kernel
theorem dL_law_367 : decode cL_law 367 = .ok (.iload 5, 2) := by decide +kernel
theorem dL_law_369 : decode cL_law 369 = .ok (.iconst 5, 1) := by decide +kernel
theorem dL_law_370 : decode cL_law 370 = .ok (.iadd, 1) := by decide +kernel
theorem dL_law_371 : decode cL_law 371 = .ok (.iaload, 1) := by decide +kernel
theorem dL_law_372 : decode cL_law 372 = .ok (.ifCond .eq 7, 3) := by decide +kernel
theorem dL_law_375 : decode cL_law 375 = .ok (.iconst 1, 1) := by decide +kernel
theorem dL_law_376 : decode cL_law 376 = .ok (.goto 4, 3) := by decide +kernel
theorem dL_law_379 : decode cL_law 379 = .ok (.iconst 0, 1) := by decide +kernel
theorem dL_law_380 : decode cL_law 380 = .ok (.invokevirtual 136, 3) := by decide +kernel
theorem dL_law_383 : decode cL_law 383 = .ok (.istore 7, 2) := by decide +kernel
theorem dL_law_385 : decode cL_law 385 = .ok (.aload_n 2, 1) := by decide +kernel
theorem dL_law_386 : decode cL_law 386 = .ok (.invokevirtual 130, 3) := by decide +kernel
theorem dL_law_389 : decode cL_law 389 = .ok (.iload 6, 2) := by decide +kernel
theorem dL_law_391 : decode cL_law 391 = .ok (.if_icmp .eq 5, 3) := by decide +kernel
theorem dL_law_394 : decode cL_law 394 = .ok (.iconst 0, 1) := by decide +kernel
theorem dL_law_395 : decode cL_law 395 = .ok (.ireturn, 1) := by decide +kernel
theorem dL_law_396 : decode cL_law 396 = .ok (.iload 6, 2) := by decide +kernel
theorem dL_law_398 : decode cL_law 398 = .ok (.ifCond .ne 15, 3) := by decide +kernel
theorem dL_law_401 : decode cL_law 401 = .ok (.aload_n 3, 1) := by decide +kernel
theorem dL_law_402 : decode cL_law 402 = .ok (.iconst 0, 1) := by decide +kernel
theorem dL_law_403 : decode cL_law 403 = .ok (.laload, 1) := by decide +kernel
theorem dL_law_404 : decode cL_law 404 = .ok (.iload 7, 2) := by decide +kernel
theorem dL_law_406 : decode cL_law 406 = .ok (.i2l, 1) := by decide +kernel
theorem dL_law_407 : decode cL_law 407 = .ok (.lcmp, 1) := by decide +kernel
theorem dL_law_408 : decode cL_law 408 = .ok (.ifCond .eq 5, 3) := by decide +kernel
theorem dL_law_411 : decode cL_law 411 = .ok (.iconst 0, 1) := by decide +kernel
theorem dL_law_412 : decode cL_law 412 = .ok (.ireturn, 1) := by decide +kernel
theorem dL_law_413 : decode cL_law 413 = .ok (.goto 1832, 3) := by decide +kernel
theorem dL_law_416 : decode cL_law 416 = .ok (.aload_n 1, 1) := by decide +kernel
theorem dL_law_417 : decode cL_law 417 = .ok (.aload_n 0, 1) := by decide +kernel
theorem dL_law_418 : decode cL_law 418 = .ok (.iload 5, 2) := by decide +kernel
theorem dL_law_420 : decode cL_law 420 = .ok (.iconst 1, 1) := by decide +kernel
theorem dL_law_421 : decode cL_law 421 = .ok (.iadd, 1) := by decide +kernel
theorem dL_law_422 : decode cL_law 422 = .ok (.iaload, 1) := by decide +kernel
theorem dL_law_423 : decode cL_law 423 = .ok (.aload_n 0, 1) := by decide +kernel
theorem dL_law_424 : decode cL_law 424 = .ok (.iload 5, 2) := by decide +kernel
theorem dL_law_426 : decode cL_law 426 = .ok (.iconst 2, 1) := by decide +kernel
theorem dL_law_427 : decode cL_law 427 = .ok (.iadd, 1) := by decide +kernel
theorem dL_law_428 : decode cL_law 428 = .ok (.iaload, 1) := by decide +kernel
theorem dL_law_429 : decode cL_law 429 = .ok (.aload_n 0, 1) := by decide +kernel
theorem dL_law_430 : decode cL_law 430 = .ok (.iload 5, 2) := by decide +kernel
theorem dL_law_432 : decode cL_law 432 = .ok (.iconst 3, 1) := by decide +kernel
theorem dL_law_433 : decode cL_law 433 = .ok (.iadd, 1) := by decide +kernel
theorem dL_law_434 : decode cL_law 434 = .ok (.iaload, 1) := by decide +kernel
theorem dL_law_435 : decode cL_law 435 = .ok (.aload_n 0, 1) := by decide +kernel
theorem dL_law_436 : decode cL_law 436 = .ok (.iload 5, 2) := by decide +kernel
theorem dL_law_438 : decode cL_law 438 = .ok (.iconst 4, 1) := by decide +kernel
theorem dL_law_439 : decode cL_law 439 = .ok (.iadd, 1) := by decide +kernel
theorem dL_law_440 : decode cL_law 440 = .ok (.iaload, 1) := by decide +kernel
theorem dL_law_441 : decode cL_law 441 = .ok (.aload_n 3, 1) := by decide +kernel
theorem dL_law_442 : decode cL_law 442 = .ok (.invokestatic 137, 3) := by decide +kernel
theorem dL_law_445 : decode cL_law 445 = .ok (.istore 6, 2) := by decide +kernel
theorem dL_law_447 : decode cL_law 447 = .ok (.aload_n 2, 1) := by decide +kernel
theorem dL_law_448 : decode cL_law 448 = .ok (.aload_n 0, 1) := by decide +kernel
theorem dL_law_449 : decode cL_law 449 = .ok (.iload 5, 2) := by decide +kernel
theorem dL_law_451 : decode cL_law 451 = .ok (.iconst 1, 1) := by decide +kernel
theorem dL_law_452 : decode cL_law 452 = .ok (.iadd, 1) := by decide +kernel
theorem dL_law_453 : decode cL_law 453 = .ok (.iaload, 1) := by decide +kernel
theorem dL_law_454 : decode cL_law 454 = .ok (.aload_n 0, 1) := by decide +kernel
theorem dL_law_455 : decode cL_law 455 = .ok (.iload 5, 2) := by decide +kernel
theorem dL_law_457 : decode cL_law 457 = .ok (.iconst 2, 1) := by decide +kernel
theorem dL_law_458 : decode cL_law 458 = .ok (.iadd, 1) := by decide +kernel
theorem dL_law_459 : decode cL_law 459 = .ok (.iaload, 1) := by decide +kernel
theorem dL_law_460 : decode cL_law 460 = .ok (.aload_n 0, 1) := by decide +kernel
theorem dL_law_461 : decode cL_law 461 = .ok (.iload 5, 2) := by decide +kernel
theorem dL_law_463 : decode cL_law 463 = .ok (.iconst 3, 1) := by decide +kernel
theorem dL_law_464 : decode cL_law 464 = .ok (.iadd, 1) := by decide +kernel
theorem dL_law_465 : decode cL_law 465 = .ok (.iaload, 1) := by decide +kernel
theorem dL_law_466 : decode cL_law 466 = .ok (.aload_n 0, 1) := by decide +kernel
theorem dL_law_467 : decode cL_law 467 = .ok (.iload 5, 2) := by decide +kernel
theorem dL_law_469 : decode cL_law 469 = .ok (.iconst 4, 1) := by decide +kernel
theorem dL_law_470 : decode cL_law 470 = .ok (.iadd, 1) := by decide +kernel
theorem dL_law_471 : decode cL_law 471 = .ok (.iaload, 1) := by decide +kernel
theorem dL_law_472 : decode cL_law 472 = .ok (.invokevirtual 139, 3) := by decide +kernel
theorem dL_law_475 : decode cL_law 475 = .ok (.istore 7, 2) := by decide +kernel
theorem dL_law_477 : decode cL_law 477 = .ok (.aload_n 2, 1) := by decide +kernel
theorem dL_law_478 : decode cL_law 478 = .ok (.invokevirtual 130, 3) := by decide +kernel
theorem dL_law_481 : decode cL_law 481 = .ok (.iload 6, 2) := by decide +kernel
theorem dL_law_483 : decode cL_law 483 = .ok (.if_icmp .eq 5, 3) := by decide +kernel
theorem dL_law_486 : decode cL_law 486 = .ok (.iconst 0, 1) := by decide +kernel
theorem dL_law_487 : decode cL_law 487 = .ok (.ireturn, 1) := by decide +kernel
theorem dL_law_488 : decode cL_law 488 = .ok (.iload 6, 2) := by decide +kernel
theorem dL_law_490 : decode cL_law 490 = .ok (.ifCond .ne 15, 3) := by decide +kernel
theorem dL_law_493 : decode cL_law 493 = .ok (.aload_n 3, 1) := by decide +kernel
theorem dL_law_494 : decode cL_law 494 = .ok (.iconst 0, 1) := by decide +kernel
theorem dL_law_495 : decode cL_law 495 = .ok (.laload, 1) := by decide +kernel
theorem dL_law_496 : decode cL_law 496 = .ok (.iload 7, 2) := by decide +kernel
theorem dL_law_498 : decode cL_law 498 = .ok (.i2l, 1) := by decide +kernel
theorem dL_law_499 : decode cL_law 499 = .ok (.lcmp, 1) := by decide +kernel
theorem dL_law_500 : decode cL_law 500 = .ok (.ifCond .eq 5, 3) := by decide +kernel
theorem dL_law_503 : decode cL_law 503 = .ok (.iconst 0, 1) := by decide +kernel
theorem dL_law_504 : decode cL_law 504 = .ok (.ireturn, 1) := by decide +kernel
theorem dL_law_505 : decode cL_law 505 = .ok (.goto 1740, 3) := by decide +kernel
theorem dL_law_508 : decode cL_law 508 = .ok (.aload_n 1, 1) := by decide +kernel
theorem dL_law_509 : decode cL_law 509 = .ok (.aload_n 0, 1) := by decide +kernel
theorem dL_law_510 : decode cL_law 510 = .ok (.iload 5, 2) := by decide +kernel
theorem dL_law_512 : decode cL_law 512 = .ok (.iconst 1, 1) := by decide +kernel
theorem dL_law_513 : decode cL_law 513 = .ok (.iadd, 1) := by decide +kernel
theorem dL_law_514 : decode cL_law 514 = .ok (.iaload, 1) := by decide +kernel
theorem dL_law_515 : decode cL_law 515 = .ok (.aload_n 0, 1) := by decide +kernel
theorem dL_law_516 : decode cL_law 516 = .ok (.iload 5, 2) := by decide +kernel
theorem dL_law_518 : decode cL_law 518 = .ok (.iconst 2, 1) := by decide +kernel
theorem dL_law_519 : decode cL_law 519 = .ok (.iadd, 1) := by decide +kernel
theorem dL_law_520 : decode cL_law 520 = .ok (.iaload, 1) := by decide +kernel
theorem dL_law_521 : decode cL_law 521 = .ok (.aload_n 3, 1) := by decide +kernel
theorem dL_law_522 : decode cL_law 522 = .ok (.invokestatic 140, 3) := by decide +kernel
theorem dL_law_525 : decode cL_law 525 = .ok (.istore 6, 2) := by decide +kernel
theorem dL_law_527 : decode cL_law 527 = .ok (.aload_n 2, 1) := by decide +kernel
theorem dL_law_528 : decode cL_law 528 = .ok (.aload_n 0, 1) := by decide +kernel
theorem dL_law_529 : decode cL_law 529 = .ok (.iload 5, 2) := by decide +kernel
theorem dL_law_531 : decode cL_law 531 = .ok (.iconst 1, 1) := by decide +kernel
theorem dL_law_532 : decode cL_law 532 = .ok (.iadd, 1) := by decide +kernel
theorem dL_law_533 : decode cL_law 533 = .ok (.iaload, 1) := by decide +kernel
theorem dL_law_534 : decode cL_law 534 = .ok (.aload_n 0, 1) := by decide +kernel
theorem dL_law_535 : decode cL_law 535 = .ok (.iload 5, 2) := by decide +kernel
theorem dL_law_537 : decode cL_law 537 = .ok (.iconst 2, 1) := by decide +kernel
theorem dL_law_538 : decode cL_law 538 = .ok (.iadd, 1) := by decide +kernel
theorem dL_law_539 : decode cL_law 539 = .ok (.iaload, 1) := by decide +kernel
theorem dL_law_540 : decode cL_law 540 = .ok (.invokevirtual 143, 3) := by decide +kernel
theorem dL_law_543 : decode cL_law 543 = .ok (.istore 7, 2) := by decide +kernel
theorem dL_law_545 : decode cL_law 545 = .ok (.aload_n 2, 1) := by decide +kernel
theorem dL_law_546 : decode cL_law 546 = .ok (.invokevirtual 130, 3) := by decide +kernel
theorem dL_law_549 : decode cL_law 549 = .ok (.iload 6, 2) := by decide +kernel
theorem dL_law_551 : decode cL_law 551 = .ok (.if_icmp .eq 5, 3) := by decide +kernel
theorem dL_law_554 : decode cL_law 554 = .ok (.iconst 0, 1) := by decide +kernel
theorem dL_law_555 : decode cL_law 555 = .ok (.ireturn, 1) := by decide +kernel
theorem dL_law_556 : decode cL_law 556 = .ok (.iload 6, 2) := by decide +kernel
theorem dL_law_558 : decode cL_law 558 = .ok (.ifCond .ne 15, 3) := by decide +kernel
theorem dL_law_561 : decode cL_law 561 = .ok (.aload_n 3, 1) := by decide +kernel
theorem dL_law_562 : decode cL_law 562 = .ok (.iconst 0, 1) := by decide +kernel
theorem dL_law_563 : decode cL_law 563 = .ok (.laload, 1) := by decide +kernel
theorem dL_law_564 : decode cL_law 564 = .ok (.iload 7, 2) := by decide +kernel
theorem dL_law_566 : decode cL_law 566 = .ok (.i2l, 1) := by decide +kernel
theorem dL_law_567 : decode cL_law 567 = .ok (.lcmp, 1) := by decide +kernel
theorem dL_law_568 : decode cL_law 568 = .ok (.ifCond .eq 5, 3) := by decide +kernel
theorem dL_law_571 : decode cL_law 571 = .ok (.iconst 0, 1) := by decide +kernel
theorem dL_law_572 : decode cL_law 572 = .ok (.ireturn, 1) := by decide +kernel
theorem dL_law_573 : decode cL_law 573 = .ok (.goto 1672, 3) := by decide +kernel
theorem dL_law_576 : decode cL_law 576 = .ok (.aload_n 1, 1) := by decide +kernel
theorem dL_law_577 : decode cL_law 577 = .ok (.aload_n 0, 1) := by decide +kernel
theorem dL_law_578 : decode cL_law 578 = .ok (.iload 5, 2) := by decide +kernel
theorem dL_law_580 : decode cL_law 580 = .ok (.iconst 1, 1) := by decide +kernel
theorem dL_law_581 : decode cL_law 581 = .ok (.iadd, 1) := by decide +kernel
theorem dL_law_582 : decode cL_law 582 = .ok (.iaload, 1) := by decide +kernel
theorem dL_law_583 : decode cL_law 583 = .ok (.aload_n 0, 1) := by decide +kernel
theorem dL_law_584 : decode cL_law 584 = .ok (.iload 5, 2) := by decide +kernel
theorem dL_law_586 : decode cL_law 586 = .ok (.iconst 2, 1) := by decide +kernel
theorem dL_law_587 : decode cL_law 587 = .ok (.iadd, 1) := by decide +kernel
theorem dL_law_588 : decode cL_law 588 = .ok (.iaload, 1) := by decide +kernel
theorem dL_law_589 : decode cL_law 589 = .ok (.aload_n 0, 1) := by decide +kernel
theorem dL_law_590 : decode cL_law 590 = .ok (.iload 5, 2) := by decide +kernel
theorem dL_law_592 : decode cL_law 592 = .ok (.iconst 3, 1) := by decide +kernel
theorem dL_law_593 : decode cL_law 593 = .ok (.iadd, 1) := by decide +kernel
theorem dL_law_594 : decode cL_law 594 = .ok (.iaload, 1) := by decide +kernel
theorem dL_law_595 : decode cL_law 595 = .ok (.aload_n 3, 1) := by decide +kernel
theorem dL_law_596 : decode cL_law 596 = .ok (.invokestatic 144, 3) := by decide +kernel
theorem dL_law_599 : decode cL_law 599 = .ok (.istore 6, 2) := by decide +kernel
theorem dL_law_601 : decode cL_law 601 = .ok (.aload_n 2, 1) := by decide +kernel
theorem dL_law_602 : decode cL_law 602 = .ok (.aload_n 0, 1) := by decide +kernel
theorem dL_law_603 : decode cL_law 603 = .ok (.iload 5, 2) := by decide +kernel
theorem dL_law_605 : decode cL_law 605 = .ok (.iconst 1, 1) := by decide +kernel
theorem dL_law_606 : decode cL_law 606 = .ok (.iadd, 1) := by decide +kernel
theorem dL_law_607 : decode cL_law 607 = .ok (.iaload, 1) := by decide +kernel
theorem dL_law_608 : decode cL_law 608 = .ok (.aload_n 0, 1) := by decide +kernel
theorem dL_law_609 : decode cL_law 609 = .ok (.iload 5, 2) := by decide +kernel
theorem dL_law_611 : decode cL_law 611 = .ok (.iconst 2, 1) := by decide +kernel
theorem dL_law_612 : decode cL_law 612 = .ok (.iadd, 1) := by decide +kernel
theorem dL_law_613 : decode cL_law 613 = .ok (.iaload, 1) := by decide +kernel
theorem dL_law_614 : decode cL_law 614 = .ok (.aload_n 0, 1) := by decide +kernel
theorem dL_law_615 : decode cL_law 615 = .ok (.iload 5, 2) := by decide +kernel
theorem dL_law_617 : decode cL_law 617 = .ok (.iconst 3, 1) := by decide +kernel
theorem dL_law_618 : decode cL_law 618 = .ok (.iadd, 1) := by decide +kernel
theorem dL_law_619 : decode cL_law 619 = .ok (.iaload, 1) := by decide +kernel
theorem dL_law_620 : decode cL_law 620 = .ok (.invokevirtual 147, 3) := by decide +kernel
theorem dL_law_623 : decode cL_law 623 = .ok (.istore 7, 2) := by decide +kernel
theorem dL_law_625 : decode cL_law 625 = .ok (.aload_n 2, 1) := by decide +kernel
theorem dL_law_626 : decode cL_law 626 = .ok (.invokevirtual 130, 3) := by decide +kernel
theorem dL_law_629 : decode cL_law 629 = .ok (.iload 6, 2) := by decide +kernel
theorem dL_law_631 : decode cL_law 631 = .ok (.if_icmp .eq 5, 3) := by decide +kernel
theorem dL_law_634 : decode cL_law 634 = .ok (.iconst 0, 1) := by decide +kernel
theorem dL_law_635 : decode cL_law 635 = .ok (.ireturn, 1) := by decide +kernel
theorem dL_law_636 : decode cL_law 636 = .ok (.iload 6, 2) := by decide +kernel
theorem dL_law_638 : decode cL_law 638 = .ok (.ifCond .ne 15, 3) := by decide +kernel
theorem dL_law_641 : decode cL_law 641 = .ok (.aload_n 3, 1) := by decide +kernel
theorem dL_law_642 : decode cL_law 642 = .ok (.iconst 0, 1) := by decide +kernel
theorem dL_law_643 : decode cL_law 643 = .ok (.laload, 1) := by decide +kernel
theorem dL_law_644 : decode cL_law 644 = .ok (.iload 7, 2) := by decide +kernel
theorem dL_law_646 : decode cL_law 646 = .ok (.i2l, 1) := by decide +kernel
theorem dL_law_647 : decode cL_law 647 = .ok (.lcmp, 1) := by decide +kernel
theorem dL_law_648 : decode cL_law 648 = .ok (.ifCond .eq 5, 3) := by decide +kernel
theorem dL_law_651 : decode cL_law 651 = .ok (.iconst 0, 1) := by decide +kernel
theorem dL_law_652 : decode cL_law 652 = .ok (.ireturn, 1) := by decide +kernel
theorem dL_law_653 : decode cL_law 653 = .ok (.goto 1592, 3) := by decide +kernel
theorem dL_law_656 : decode cL_law 656 = .ok (.aload_n 1, 1) := by decide +kernel
theorem dL_law_657 : decode cL_law 657 = .ok (.aload_n 3, 1) := by decide +kernel
theorem dL_law_658 : decode cL_law 658 = .ok (.invokestatic 148, 3) := by decide +kernel
theorem dL_law_661 : decode cL_law 661 = .ok (.istore 6, 2) := by decide +kernel
theorem dL_law_663 : decode cL_law 663 = .ok (.aload_n 2, 1) := by decide +kernel
theorem dL_law_664 : decode cL_law 664 = .ok (.invokevirtual 151, 3) := by decide +kernel
theorem dL_law_667 : decode cL_law 667 = .ok (.istore 7, 2) := by decide +kernel
theorem dL_law_669 : decode cL_law 669 = .ok (.aload_n 2, 1) := by decide +kernel
theorem dL_law_670 : decode cL_law 670 = .ok (.invokevirtual 130, 3) := by decide +kernel
theorem dL_law_673 : decode cL_law 673 = .ok (.iload 6, 2) := by decide +kernel
theorem dL_law_675 : decode cL_law 675 = .ok (.if_icmp .eq 5, 3) := by decide +kernel
theorem dL_law_678 : decode cL_law 678 = .ok (.iconst 0, 1) := by decide +kernel
theorem dL_law_679 : decode cL_law 679 = .ok (.ireturn, 1) := by decide +kernel
theorem dL_law_680 : decode cL_law 680 = .ok (.iload 6, 2) := by decide +kernel
theorem dL_law_682 : decode cL_law 682 = .ok (.ifCond .ne 15, 3) := by decide +kernel
theorem dL_law_685 : decode cL_law 685 = .ok (.aload_n 3, 1) := by decide +kernel
theorem dL_law_686 : decode cL_law 686 = .ok (.iconst 0, 1) := by decide +kernel
theorem dL_law_687 : decode cL_law 687 = .ok (.laload, 1) := by decide +kernel
theorem dL_law_688 : decode cL_law 688 = .ok (.iload 7, 2) := by decide +kernel
theorem dL_law_690 : decode cL_law 690 = .ok (.i2l, 1) := by decide +kernel
theorem dL_law_691 : decode cL_law 691 = .ok (.lcmp, 1) := by decide +kernel
theorem dL_law_692 : decode cL_law 692 = .ok (.ifCond .eq 5, 3) := by decide +kernel
theorem dL_law_695 : decode cL_law 695 = .ok (.iconst 0, 1) := by decide +kernel
theorem dL_law_696 : decode cL_law 696 = .ok (.ireturn, 1) := by decide +kernel
theorem dL_law_697 : decode cL_law 697 = .ok (.goto 1548, 3) := by decide +kernel
theorem dL_law_700 : decode cL_law 700 = .ok (.aload_n 1, 1) := by decide +kernel
theorem dL_law_701 : decode cL_law 701 = .ok (.invokevirtual 152, 3) := by decide +kernel
theorem dL_law_704 : decode cL_law 704 = .ok (.aload_n 2, 1) := by decide +kernel
theorem dL_law_705 : decode cL_law 705 = .ok (.invokevirtual 155, 3) := by decide +kernel
theorem dL_law_708 : decode cL_law 708 = .ok (.if_icmp .eq 1537, 3) := by decide +kernel
theorem dL_law_711 : decode cL_law 711 = .ok (.iconst 0, 1) := by decide +kernel
theorem dL_law_712 : decode cL_law 712 = .ok (.ireturn, 1) := by decide +kernel
theorem dL_law_713 : decode cL_law 713 = .ok (.aload_n 1, 1) := by decide +kernel
theorem dL_law_714 : decode cL_law 714 = .ok (.aload_n 0, 1) := by decide +kernel
theorem dL_law_715 : decode cL_law 715 = .ok (.iload 5, 2) := by decide +kernel
theorem dL_law_717 : decode cL_law 717 = .ok (.iconst 1, 1) := by decide +kernel
theorem dL_law_718 : decode cL_law 718 = .ok (.iadd, 1) := by decide +kernel
theorem dL_law_719 : decode cL_law 719 = .ok (.iaload, 1) := by decide +kernel
theorem dL_law_720 : decode cL_law 720 = .ok (.aload_n 3, 1) := by decide +kernel
theorem dL_law_721 : decode cL_law 721 = .ok (.invokestatic 156, 3) := by decide +kernel
theorem dL_law_724 : decode cL_law 724 = .ok (.istore 6, 2) := by decide +kernel
theorem dL_law_726 : decode cL_law 726 = .ok (.aload_n 2, 1) := by decide +kernel
theorem dL_law_727 : decode cL_law 727 = .ok (.aload_n 0, 1) := by decide +kernel
theorem dL_law_728 : decode cL_law 728 = .ok (.iload 5, 2) := by decide +kernel
theorem dL_law_730 : decode cL_law 730 = .ok (.iconst 1, 1) := by decide +kernel
theorem dL_law_731 : decode cL_law 731 = .ok (.iadd, 1) := by decide +kernel
theorem dL_law_732 : decode cL_law 732 = .ok (.iaload, 1) := by decide +kernel
theorem dL_law_733 : decode cL_law 733 = .ok (.invokevirtual 159, 3) := by decide +kernel
theorem dL_law_736 : decode cL_law 736 = .ok (.istore 7, 2) := by decide +kernel
theorem dL_law_738 : decode cL_law 738 = .ok (.aload_n 2, 1) := by decide +kernel
theorem dL_law_739 : decode cL_law 739 = .ok (.invokevirtual 130, 3) := by decide +kernel
theorem dL_law_742 : decode cL_law 742 = .ok (.iload 6, 2) := by decide +kernel
theorem dL_law_744 : decode cL_law 744 = .ok (.if_icmp .eq 5, 3) := by decide +kernel
theorem dL_law_747 : decode cL_law 747 = .ok (.iconst 0, 1) := by decide +kernel
theorem dL_law_748 : decode cL_law 748 = .ok (.ireturn, 1) := by decide +kernel
theorem dL_law_749 : decode cL_law 749 = .ok (.iload 6, 2) := by decide +kernel
theorem dL_law_751 : decode cL_law 751 = .ok (.ifCond .ne 15, 3) := by decide +kernel
theorem dL_law_754 : decode cL_law 754 = .ok (.aload_n 3, 1) := by decide +kernel
theorem dL_law_755 : decode cL_law 755 = .ok (.iconst 0, 1) := by decide +kernel
theorem dL_law_756 : decode cL_law 756 = .ok (.laload, 1) := by decide +kernel
theorem dL_law_757 : decode cL_law 757 = .ok (.iload 7, 2) := by decide +kernel
theorem dL_law_759 : decode cL_law 759 = .ok (.i2l, 1) := by decide +kernel
theorem dL_law_760 : decode cL_law 760 = .ok (.lcmp, 1) := by decide +kernel
theorem dL_law_761 : decode cL_law 761 = .ok (.ifCond .eq 5, 3) := by decide +kernel
theorem dL_law_764 : decode cL_law 764 = .ok (.iconst 0, 1) := by decide +kernel
theorem dL_law_765 : decode cL_law 765 = .ok (.ireturn, 1) := by decide +kernel
theorem dL_law_766 : decode cL_law 766 = .ok (.goto 1479, 3) := by decide +kernel
theorem dL_law_769 : decode cL_law 769 = .ok (.aload_n 1, 1) := by decide +kernel
theorem dL_law_770 : decode cL_law 770 = .ok (.aload_n 0, 1) := by decide +kernel
theorem dL_law_771 : decode cL_law 771 = .ok (.iload 5, 2) := by decide +kernel
theorem dL_law_773 : decode cL_law 773 = .ok (.iconst 1, 1) := by decide +kernel
theorem dL_law_774 : decode cL_law 774 = .ok (.iadd, 1) := by decide +kernel
theorem dL_law_775 : decode cL_law 775 = .ok (.iaload, 1) := by decide +kernel
theorem dL_law_776 : decode cL_law 776 = .ok (.aload_n 3, 1) := by decide +kernel
theorem dL_law_777 : decode cL_law 777 = .ok (.invokestatic 160, 3) := by decide +kernel
theorem dL_law_780 : decode cL_law 780 = .ok (.istore 6, 2) := by decide +kernel
theorem dL_law_782 : decode cL_law 782 = .ok (.aload_n 2, 1) := by decide +kernel
theorem dL_law_783 : decode cL_law 783 = .ok (.aload_n 0, 1) := by decide +kernel
theorem dL_law_784 : decode cL_law 784 = .ok (.iload 5, 2) := by decide +kernel
theorem dL_law_786 : decode cL_law 786 = .ok (.iconst 1, 1) := by decide +kernel
theorem dL_law_787 : decode cL_law 787 = .ok (.iadd, 1) := by decide +kernel
theorem dL_law_788 : decode cL_law 788 = .ok (.iaload, 1) := by decide +kernel
theorem dL_law_789 : decode cL_law 789 = .ok (.invokevirtual 162, 3) := by decide +kernel
theorem dL_law_792 : decode cL_law 792 = .ok (.istore 7, 2) := by decide +kernel
theorem dL_law_794 : decode cL_law 794 = .ok (.aload_n 2, 1) := by decide +kernel
theorem dL_law_795 : decode cL_law 795 = .ok (.invokevirtual 130, 3) := by decide +kernel
theorem dL_law_798 : decode cL_law 798 = .ok (.iload 6, 2) := by decide +kernel
theorem dL_law_800 : decode cL_law 800 = .ok (.if_icmp .eq 5, 3) := by decide +kernel
theorem dL_law_803 : decode cL_law 803 = .ok (.iconst 0, 1) := by decide +kernel
theorem dL_law_804 : decode cL_law 804 = .ok (.ireturn, 1) := by decide +kernel
theorem dL_law_805 : decode cL_law 805 = .ok (.iload 6, 2) := by decide +kernel
theorem dL_law_807 : decode cL_law 807 = .ok (.ifCond .ne 15, 3) := by decide +kernel
theorem dL_law_810 : decode cL_law 810 = .ok (.aload_n 3, 1) := by decide +kernel
theorem dL_law_811 : decode cL_law 811 = .ok (.iconst 0, 1) := by decide +kernel
theorem dL_law_812 : decode cL_law 812 = .ok (.laload, 1) := by decide +kernel
theorem dL_law_813 : decode cL_law 813 = .ok (.iload 7, 2) := by decide +kernel
theorem dL_law_815 : decode cL_law 815 = .ok (.i2l, 1) := by decide +kernel
theorem dL_law_816 : decode cL_law 816 = .ok (.lcmp, 1) := by decide +kernel
theorem dL_law_817 : decode cL_law 817 = .ok (.ifCond .eq 5, 3) := by decide +kernel
theorem dL_law_820 : decode cL_law 820 = .ok (.iconst 0, 1) := by decide +kernel
theorem dL_law_821 : decode cL_law 821 = .ok (.ireturn, 1) := by decide +kernel
theorem dL_law_822 : decode cL_law 822 = .ok (.goto 1423, 3) := by decide +kernel
theorem dL_law_825 : decode cL_law 825 = .ok (.aload_n 1, 1) := by decide +kernel
theorem dL_law_826 : decode cL_law 826 = .ok (.aload_n 0, 1) := by decide +kernel
theorem dL_law_827 : decode cL_law 827 = .ok (.iload 5, 2) := by decide +kernel
theorem dL_law_829 : decode cL_law 829 = .ok (.iconst 1, 1) := by decide +kernel
theorem dL_law_830 : decode cL_law 830 = .ok (.iadd, 1) := by decide +kernel
theorem dL_law_831 : decode cL_law 831 = .ok (.iaload, 1) := by decide +kernel
theorem dL_law_832 : decode cL_law 832 = .ok (.aload 4, 2) := by decide +kernel
theorem dL_law_834 : decode cL_law 834 = .ok (.invokestatic 163, 3) := by decide +kernel
theorem dL_law_837 : decode cL_law 837 = .ok (.istore 6, 2) := by decide +kernel
theorem dL_law_839 : decode cL_law 839 = .ok (.aload_n 2, 1) := by decide +kernel
theorem dL_law_840 : decode cL_law 840 = .ok (.aload_n 0, 1) := by decide +kernel
theorem dL_law_841 : decode cL_law 841 = .ok (.iload 5, 2) := by decide +kernel
theorem dL_law_843 : decode cL_law 843 = .ok (.iconst 1, 1) := by decide +kernel
theorem dL_law_844 : decode cL_law 844 = .ok (.iadd, 1) := by decide +kernel
theorem dL_law_845 : decode cL_law 845 = .ok (.iaload, 1) := by decide +kernel
theorem dL_law_846 : decode cL_law 846 = .ok (.invokevirtual 166, 3) := by decide +kernel
theorem dL_law_849 : decode cL_law 849 = .ok (.fstore 7, 2) := by decide +kernel
theorem dL_law_851 : decode cL_law 851 = .ok (.aload_n 2, 1) := by decide +kernel
theorem dL_law_852 : decode cL_law 852 = .ok (.invokevirtual 130, 3) := by decide +kernel
theorem dL_law_855 : decode cL_law 855 = .ok (.iload 6, 2) := by decide +kernel
theorem dL_law_857 : decode cL_law 857 = .ok (.if_icmp .eq 5, 3) := by decide +kernel
theorem dL_law_860 : decode cL_law 860 = .ok (.iconst 0, 1) := by decide +kernel
theorem dL_law_861 : decode cL_law 861 = .ok (.ireturn, 1) := by decide +kernel
theorem dL_law_862 : decode cL_law 862 = .ok (.iload 6, 2) := by decide +kernel
theorem dL_law_864 : decode cL_law 864 = .ok (.ifCond .ne 36, 3) := by decide +kernel
theorem dL_law_867 : decode cL_law 867 = .ok (.aload 4, 2) := by decide +kernel
theorem dL_law_869 : decode cL_law 869 = .ok (.iconst 0, 1) := by decide +kernel
theorem dL_law_870 : decode cL_law 870 = .ok (.daload, 1) := by decide +kernel
theorem dL_law_871 : decode cL_law 871 = .ok (.fload 7, 2) := by decide +kernel
theorem dL_law_873 : decode cL_law 873 = .ok (.f2d, 1) := by decide +kernel
theorem dL_law_874 : decode cL_law 874 = .ok (.dcmp .l, 1) := by decide +kernel
theorem dL_law_875 : decode cL_law 875 = .ok (.ifCond .eq 25, 3) := by decide +kernel
theorem dL_law_878 : decode cL_law 878 = .ok (.aload 4, 2) := by decide +kernel
theorem dL_law_880 : decode cL_law 880 = .ok (.iconst 0, 1) := by decide +kernel
theorem dL_law_881 : decode cL_law 881 = .ok (.daload, 1) := by decide +kernel
theorem dL_law_882 : decode cL_law 882 = .ok (.aload 4, 2) := by decide +kernel
theorem dL_law_884 : decode cL_law 884 = .ok (.iconst 0, 1) := by decide +kernel
theorem dL_law_885 : decode cL_law 885 = .ok (.daload, 1) := by decide +kernel
theorem dL_law_886 : decode cL_law 886 = .ok (.dcmp .l, 1) := by decide +kernel
theorem dL_law_887 : decode cL_law 887 = .ok (.ifCond .eq 11, 3) := by decide +kernel
theorem dL_law_890 : decode cL_law 890 = .ok (.fload 7, 2) := by decide +kernel
theorem dL_law_892 : decode cL_law 892 = .ok (.fload 7, 2) := by decide +kernel
theorem dL_law_894 : decode cL_law 894 = .ok (.fcmp .l, 1) := by decide +kernel
theorem dL_law_895 : decode cL_law 895 = .ok (.ifCond .ne 5, 3) := by decide +kernel
theorem dL_law_898 : decode cL_law 898 = .ok (.iconst 0, 1) := by decide +kernel
theorem dL_law_899 : decode cL_law 899 = .ok (.ireturn, 1) := by decide +kernel
theorem dL_law_900 : decode cL_law 900 = .ok (.goto 1345, 3) := by decide +kernel
theorem dL_law_903 : decode cL_law 903 = .ok (.aload_n 1, 1) := by decide +kernel
theorem dL_law_904 : decode cL_law 904 = .ok (.aload_n 0, 1) := by decide +kernel
theorem dL_law_905 : decode cL_law 905 = .ok (.iload 5, 2) := by decide +kernel
theorem dL_law_907 : decode cL_law 907 = .ok (.iconst 1, 1) := by decide +kernel
theorem dL_law_908 : decode cL_law 908 = .ok (.iadd, 1) := by decide +kernel
theorem dL_law_909 : decode cL_law 909 = .ok (.iaload, 1) := by decide +kernel
theorem dL_law_910 : decode cL_law 910 = .ok (.aload_n 3, 1) := by decide +kernel
theorem dL_law_911 : decode cL_law 911 = .ok (.invokestatic 167, 3) := by decide +kernel
theorem dL_law_914 : decode cL_law 914 = .ok (.istore 6, 2) := by decide +kernel
theorem dL_law_916 : decode cL_law 916 = .ok (.aload_n 2, 1) := by decide +kernel
theorem dL_law_917 : decode cL_law 917 = .ok (.aload_n 0, 1) := by decide +kernel
theorem dL_law_918 : decode cL_law 918 = .ok (.iload 5, 2) := by decide +kernel
theorem dL_law_920 : decode cL_law 920 = .ok (.iconst 1, 1) := by decide +kernel
theorem dL_law_921 : decode cL_law 921 = .ok (.iadd, 1) := by decide +kernel
theorem dL_law_922 : decode cL_law 922 = .ok (.iaload, 1) := by decide +kernel
theorem dL_law_923 : decode cL_law 923 = .ok (.invokevirtual 169, 3) := by decide +kernel
theorem dL_law_926 : decode cL_law 926 = .ok (.istore 7, 2) := by decide +kernel
theorem dL_law_928 : decode cL_law 928 = .ok (.aload_n 2, 1) := by decide +kernel
theorem dL_law_929 : decode cL_law 929 = .ok (.invokevirtual 130, 3) := by decide +kernel
theorem dL_law_932 : decode cL_law 932 = .ok (.iload 6, 2) := by decide +kernel
theorem dL_law_934 : decode cL_law 934 = .ok (.if_icmp .eq 5, 3) := by decide +kernel
theorem dL_law_937 : decode cL_law 937 = .ok (.iconst 0, 1) := by decide +kernel
theorem dL_law_938 : decode cL_law 938 = .ok (.ireturn, 1) := by decide +kernel
theorem dL_law_939 : decode cL_law 939 = .ok (.iload 6, 2) := by decide +kernel
theorem dL_law_941 : decode cL_law 941 = .ok (.ifCond .ne 15, 3) := by decide +kernel
theorem dL_law_944 : decode cL_law 944 = .ok (.aload_n 3, 1) := by decide +kernel
theorem dL_law_945 : decode cL_law 945 = .ok (.iconst 0, 1) := by decide +kernel
theorem dL_law_946 : decode cL_law 946 = .ok (.laload, 1) := by decide +kernel
theorem dL_law_947 : decode cL_law 947 = .ok (.iload 7, 2) := by decide +kernel
theorem dL_law_949 : decode cL_law 949 = .ok (.i2l, 1) := by decide +kernel
theorem dL_law_950 : decode cL_law 950 = .ok (.lcmp, 1) := by decide +kernel
theorem dL_law_951 : decode cL_law 951 = .ok (.ifCond .eq 5, 3) := by decide +kernel
theorem dL_law_954 : decode cL_law 954 = .ok (.iconst 0, 1) := by decide +kernel
theorem dL_law_955 : decode cL_law 955 = .ok (.ireturn, 1) := by decide +kernel
theorem dL_law_956 : decode cL_law 956 = .ok (.goto 1289, 3) := by decide +kernel
theorem dL_law_959 : decode cL_law 959 = .ok (.aload_n 1, 1) := by decide +kernel
theorem dL_law_960 : decode cL_law 960 = .ok (.aload_n 0, 1) := by decide +kernel
theorem dL_law_961 : decode cL_law 961 = .ok (.iload 5, 2) := by decide +kernel
theorem dL_law_963 : decode cL_law 963 = .ok (.iconst 1, 1) := by decide +kernel
theorem dL_law_964 : decode cL_law 964 = .ok (.iadd, 1) := by decide +kernel
theorem dL_law_965 : decode cL_law 965 = .ok (.iaload, 1) := by decide +kernel
theorem dL_law_966 : decode cL_law 966 = .ok (.aload_n 0, 1) := by decide +kernel
theorem dL_law_967 : decode cL_law 967 = .ok (.iload 5, 2) := by decide +kernel
theorem dL_law_969 : decode cL_law 969 = .ok (.iconst 2, 1) := by decide +kernel
theorem dL_law_970 : decode cL_law 970 = .ok (.iadd, 1) := by decide +kernel
theorem dL_law_971 : decode cL_law 971 = .ok (.iaload, 1) := by decide +kernel
theorem dL_law_972 : decode cL_law 972 = .ok (.aload_n 3, 1) := by decide +kernel
theorem dL_law_973 : decode cL_law 973 = .ok (.invokestatic 170, 3) := by decide +kernel
theorem dL_law_976 : decode cL_law 976 = .ok (.istore 6, 2) := by decide +kernel
theorem dL_law_978 : decode cL_law 978 = .ok (.aload_n 2, 1) := by decide +kernel
theorem dL_law_979 : decode cL_law 979 = .ok (.aload_n 0, 1) := by decide +kernel
theorem dL_law_980 : decode cL_law 980 = .ok (.iload 5, 2) := by decide +kernel
theorem dL_law_982 : decode cL_law 982 = .ok (.iconst 1, 1) := by decide +kernel
theorem dL_law_983 : decode cL_law 983 = .ok (.iadd, 1) := by decide +kernel
theorem dL_law_984 : decode cL_law 984 = .ok (.iaload, 1) := by decide +kernel
theorem dL_law_985 : decode cL_law 985 = .ok (.aload_n 0, 1) := by decide +kernel
theorem dL_law_986 : decode cL_law 986 = .ok (.iload 5, 2) := by decide +kernel
theorem dL_law_988 : decode cL_law 988 = .ok (.iconst 2, 1) := by decide +kernel
theorem dL_law_989 : decode cL_law 989 = .ok (.iadd, 1) := by decide +kernel
theorem dL_law_990 : decode cL_law 990 = .ok (.iaload, 1) := by decide +kernel
theorem dL_law_991 : decode cL_law 991 = .ok (.invokevirtual 172, 3) := by decide +kernel
theorem dL_law_994 : decode cL_law 994 = .ok (.istore 7, 2) := by decide +kernel
theorem dL_law_996 : decode cL_law 996 = .ok (.aload_n 2, 1) := by decide +kernel
theorem dL_law_997 : decode cL_law 997 = .ok (.invokevirtual 130, 3) := by decide +kernel
theorem dL_law_1000 : decode cL_law 1000 = .ok (.iload 6, 2) := by decide +kernel
theorem dL_law_1002 : decode cL_law 1002 = .ok (.if_icmp .eq 5, 3) := by decide +kernel
theorem dL_law_1005 : decode cL_law 1005 = .ok (.iconst 0, 1) := by decide +kernel
theorem dL_law_1006 : decode cL_law 1006 = .ok (.ireturn, 1) := by decide +kernel
theorem dL_law_1007 : decode cL_law 1007 = .ok (.iload 6, 2) := by decide +kernel
theorem dL_law_1009 : decode cL_law 1009 = .ok (.ifCond .ne 15, 3) := by decide +kernel
theorem dL_law_1012 : decode cL_law 1012 = .ok (.aload_n 3, 1) := by decide +kernel
theorem dL_law_1013 : decode cL_law 1013 = .ok (.iconst 0, 1) := by decide +kernel
theorem dL_law_1014 : decode cL_law 1014 = .ok (.laload, 1) := by decide +kernel
theorem dL_law_1015 : decode cL_law 1015 = .ok (.iload 7, 2) := by decide +kernel
theorem dL_law_1017 : decode cL_law 1017 = .ok (.i2l, 1) := by decide +kernel
theorem dL_law_1018 : decode cL_law 1018 = .ok (.lcmp, 1) := by decide +kernel
theorem dL_law_1019 : decode cL_law 1019 = .ok (.ifCond .eq 5, 3) := by decide +kernel
theorem dL_law_1022 : decode cL_law 1022 = .ok (.iconst 0, 1) := by decide +kernel
theorem dL_law_1023 : decode cL_law 1023 = .ok (.ireturn, 1) := by decide +kernel
theorem dL_law_1024 : decode cL_law 1024 = .ok (.goto 1221, 3) := by decide +kernel
theorem dL_law_1027 : decode cL_law 1027 = .ok (.aload_n 1, 1) := by decide +kernel
theorem dL_law_1028 : decode cL_law 1028 = .ok (.aload_n 0, 1) := by decide +kernel
theorem dL_law_1029 : decode cL_law 1029 = .ok (.iload 5, 2) := by decide +kernel
theorem dL_law_1031 : decode cL_law 1031 = .ok (.iconst 1, 1) := by decide +kernel
theorem dL_law_1032 : decode cL_law 1032 = .ok (.iadd, 1) := by decide +kernel
theorem dL_law_1033 : decode cL_law 1033 = .ok (.iaload, 1) := by decide +kernel
theorem dL_law_1034 : decode cL_law 1034 = .ok (.aload_n 3, 1) := by decide +kernel
theorem dL_law_1035 : decode cL_law 1035 = .ok (.invokestatic 173, 3) := by decide +kernel
theorem dL_law_1038 : decode cL_law 1038 = .ok (.istore 6, 2) := by decide +kernel
theorem dL_law_1040 : decode cL_law 1040 = .ok (.aload_n 2, 1) := by decide +kernel
theorem dL_law_1041 : decode cL_law 1041 = .ok (.aload_n 0, 1) := by decide +kernel
theorem dL_law_1042 : decode cL_law 1042 = .ok (.iload 5, 2) := by decide +kernel
theorem dL_law_1044 : decode cL_law 1044 = .ok (.iconst 1, 1) := by decide +kernel
theorem dL_law_1045 : decode cL_law 1045 = .ok (.iadd, 1) := by decide +kernel
theorem dL_law_1046 : decode cL_law 1046 = .ok (.iaload, 1) := by decide +kernel
theorem dL_law_1047 : decode cL_law 1047 = .ok (.invokevirtual 175, 3) := by decide +kernel
theorem dL_law_1050 : decode cL_law 1050 = .ok (.istore 7, 2) := by decide +kernel
theorem dL_law_1052 : decode cL_law 1052 = .ok (.aload_n 2, 1) := by decide +kernel
theorem dL_law_1053 : decode cL_law 1053 = .ok (.invokevirtual 130, 3) := by decide +kernel
theorem dL_law_1056 : decode cL_law 1056 = .ok (.iload 6, 2) := by decide +kernel
theorem dL_law_1058 : decode cL_law 1058 = .ok (.if_icmp .eq 5, 3) := by decide +kernel
theorem dL_law_1061 : decode cL_law 1061 = .ok (.iconst 0, 1) := by decide +kernel
theorem dL_law_1062 : decode cL_law 1062 = .ok (.ireturn, 1) := by decide +kernel
theorem dL_law_1063 : decode cL_law 1063 = .ok (.iload 6, 2) := by decide +kernel
theorem dL_law_1065 : decode cL_law 1065 = .ok (.ifCond .ne 15, 3) := by decide +kernel
theorem dL_law_1068 : decode cL_law 1068 = .ok (.aload_n 3, 1) := by decide +kernel
theorem dL_law_1069 : decode cL_law 1069 = .ok (.iconst 0, 1) := by decide +kernel
theorem dL_law_1070 : decode cL_law 1070 = .ok (.laload, 1) := by decide +kernel
theorem dL_law_1071 : decode cL_law 1071 = .ok (.iload 7, 2) := by decide +kernel
theorem dL_law_1073 : decode cL_law 1073 = .ok (.i2l, 1) := by decide +kernel
theorem dL_law_1074 : decode cL_law 1074 = .ok (.lcmp, 1) := by decide +kernel
theorem dL_law_1075 : decode cL_law 1075 = .ok (.ifCond .eq 5, 3) := by decide +kernel
theorem dL_law_1078 : decode cL_law 1078 = .ok (.iconst 0, 1) := by decide +kernel
theorem dL_law_1079 : decode cL_law 1079 = .ok (.ireturn, 1) := by decide +kernel
theorem dL_law_1080 : decode cL_law 1080 = .ok (.goto 1165, 3) := by decide +kernel
theorem dL_law_1083 : decode cL_law 1083 = .ok (.aload_n 1, 1) := by decide +kernel
theorem dL_law_1084 : decode cL_law 1084 = .ok (.aload_n 0, 1) := by decide +kernel
theorem dL_law_1085 : decode cL_law 1085 = .ok (.iload 5, 2) := by decide +kernel
theorem dL_law_1087 : decode cL_law 1087 = .ok (.iconst 1, 1) := by decide +kernel
theorem dL_law_1088 : decode cL_law 1088 = .ok (.iadd, 1) := by decide +kernel
theorem dL_law_1089 : decode cL_law 1089 = .ok (.iaload, 1) := by decide +kernel
theorem dL_law_1090 : decode cL_law 1090 = .ok (.aload_n 3, 1) := by decide +kernel
theorem dL_law_1091 : decode cL_law 1091 = .ok (.invokestatic 176, 3) := by decide +kernel
theorem dL_law_1094 : decode cL_law 1094 = .ok (.istore 6, 2) := by decide +kernel
theorem dL_law_1096 : decode cL_law 1096 = .ok (.aload_n 2, 1) := by decide +kernel
theorem dL_law_1097 : decode cL_law 1097 = .ok (.aload_n 0, 1) := by decide +kernel
theorem dL_law_1098 : decode cL_law 1098 = .ok (.iload 5, 2) := by decide +kernel
theorem dL_law_1100 : decode cL_law 1100 = .ok (.iconst 1, 1) := by decide +kernel
theorem dL_law_1101 : decode cL_law 1101 = .ok (.iadd, 1) := by decide +kernel
theorem dL_law_1102 : decode cL_law 1102 = .ok (.iaload, 1) := by decide +kernel
theorem dL_law_1103 : decode cL_law 1103 = .ok (.invokevirtual 178, 3) := by decide +kernel
theorem dL_law_1106 : decode cL_law 1106 = .ok (.istore 7, 2) := by decide +kernel
theorem dL_law_1108 : decode cL_law 1108 = .ok (.aload_n 2, 1) := by decide +kernel
theorem dL_law_1109 : decode cL_law 1109 = .ok (.invokevirtual 130, 3) := by decide +kernel
theorem dL_law_1112 : decode cL_law 1112 = .ok (.iload 6, 2) := by decide +kernel
theorem dL_law_1114 : decode cL_law 1114 = .ok (.if_icmp .eq 5, 3) := by decide +kernel
theorem dL_law_1117 : decode cL_law 1117 = .ok (.iconst 0, 1) := by decide +kernel
theorem dL_law_1118 : decode cL_law 1118 = .ok (.ireturn, 1) := by decide +kernel
theorem dL_law_1119 : decode cL_law 1119 = .ok (.iload 6, 2) := by decide +kernel
theorem dL_law_1121 : decode cL_law 1121 = .ok (.ifCond .ne 15, 3) := by decide +kernel
theorem dL_law_1124 : decode cL_law 1124 = .ok (.aload_n 3, 1) := by decide +kernel
theorem dL_law_1125 : decode cL_law 1125 = .ok (.iconst 0, 1) := by decide +kernel
theorem dL_law_1126 : decode cL_law 1126 = .ok (.laload, 1) := by decide +kernel
theorem dL_law_1127 : decode cL_law 1127 = .ok (.iload 7, 2) := by decide +kernel
theorem dL_law_1129 : decode cL_law 1129 = .ok (.i2l, 1) := by decide +kernel
theorem dL_law_1130 : decode cL_law 1130 = .ok (.lcmp, 1) := by decide +kernel
theorem dL_law_1131 : decode cL_law 1131 = .ok (.ifCond .eq 5, 3) := by decide +kernel
theorem dL_law_1134 : decode cL_law 1134 = .ok (.iconst 0, 1) := by decide +kernel
theorem dL_law_1135 : decode cL_law 1135 = .ok (.ireturn, 1) := by decide +kernel
theorem dL_law_1136 : decode cL_law 1136 = .ok (.goto 1109, 3) := by decide +kernel
theorem dL_law_1139 : decode cL_law 1139 = .ok (.aload_n 1, 1) := by decide +kernel
theorem dL_law_1140 : decode cL_law 1140 = .ok (.invokevirtual 179, 3) := by decide +kernel
theorem dL_law_1143 : decode cL_law 1143 = .ok (.aload_n 2, 1) := by decide +kernel
theorem dL_law_1144 : decode cL_law 1144 = .ok (.invokevirtual 182, 3) := by decide +kernel
theorem dL_law_1147 : decode cL_law 1147 = .ok (.if_icmp .eq 1098, 3) := by decide +kernel
theorem dL_law_1150 : decode cL_law 1150 = .ok (.iconst 0, 1) := by decide +kernel
theorem dL_law_1151 : decode cL_law 1151 = .ok (.ireturn, 1) := by decide +kernel
theorem dL_law_1152 : decode cL_law 1152 = .ok (.aload_n 1, 1) := by decide +kernel
theorem dL_law_1153 : decode cL_law 1153 = .ok (.invokevirtual 183, 3) := by decide +kernel
theorem dL_law_1156 : decode cL_law 1156 = .ok (.aload_n 2, 1) := by decide +kernel
theorem dL_law_1157 : decode cL_law 1157 = .ok (.invokevirtual 186, 3) := by decide +kernel
theorem dL_law_1160 : decode cL_law 1160 = .ok (.if_icmp .eq 1085, 3) := by decide +kernel
theorem dL_law_1163 : decode cL_law 1163 = .ok (.iconst 0, 1) := by decide +kernel
theorem dL_law_1164 : decode cL_law 1164 = .ok (.ireturn, 1) := by decide +kernel
theorem dL_law_1165 : decode cL_law 1165 = .ok (.aload_n 1, 1) := by decide +kernel
theorem dL_law_1166 : decode cL_law 1166 = .ok (.aload_n 0, 1) := by decide +kernel
theorem dL_law_1167 : decode cL_law 1167 = .ok (.iload 5, 2) := by decide +kernel
theorem dL_law_1169 : decode cL_law 1169 = .ok (.iconst 1, 1) := by decide +kernel
theorem dL_law_1170 : decode cL_law 1170 = .ok (.iadd, 1) := by decide +kernel
theorem dL_law_1171 : decode cL_law 1171 = .ok (.iaload, 1) := by decide +kernel
theorem dL_law_1172 : decode cL_law 1172 = .ok (.aload_n 3, 1) := by decide +kernel
theorem dL_law_1173 : decode cL_law 1173 = .ok (.invokestatic 187, 3) := by decide +kernel
theorem dL_law_1176 : decode cL_law 1176 = .ok (.istore 6, 2) := by decide +kernel
theorem dL_law_1178 : decode cL_law 1178 = .ok (.aload_n 2, 1) := by decide +kernel
theorem dL_law_1179 : decode cL_law 1179 = .ok (.aload_n 0, 1) := by decide +kernel
theorem dL_law_1180 : decode cL_law 1180 = .ok (.iload 5, 2) := by decide +kernel
theorem dL_law_1182 : decode cL_law 1182 = .ok (.iconst 1, 1) := by decide +kernel
theorem dL_law_1183 : decode cL_law 1183 = .ok (.iadd, 1) := by decide +kernel
theorem dL_law_1184 : decode cL_law 1184 = .ok (.iaload, 1) := by decide +kernel
theorem dL_law_1185 : decode cL_law 1185 = .ok (.invokevirtual 189, 3) := by decide +kernel
theorem dL_law_1188 : decode cL_law 1188 = .ok (.istore 7, 2) := by decide +kernel
theorem dL_law_1190 : decode cL_law 1190 = .ok (.aload_n 2, 1) := by decide +kernel
theorem dL_law_1191 : decode cL_law 1191 = .ok (.invokevirtual 130, 3) := by decide +kernel
theorem dL_law_1194 : decode cL_law 1194 = .ok (.iload 6, 2) := by decide +kernel
theorem dL_law_1196 : decode cL_law 1196 = .ok (.if_icmp .eq 5, 3) := by decide +kernel
theorem dL_law_1199 : decode cL_law 1199 = .ok (.iconst 0, 1) := by decide +kernel
theorem dL_law_1200 : decode cL_law 1200 = .ok (.ireturn, 1) := by decide +kernel
theorem dL_law_1201 : decode cL_law 1201 = .ok (.iload 6, 2) := by decide +kernel
theorem dL_law_1203 : decode cL_law 1203 = .ok (.ifCond .ne 15, 3) := by decide +kernel
theorem dL_law_1206 : decode cL_law 1206 = .ok (.aload_n 3, 1) := by decide +kernel
theorem dL_law_1207 : decode cL_law 1207 = .ok (.iconst 0, 1) := by decide +kernel
theorem dL_law_1208 : decode cL_law 1208 = .ok (.laload, 1) := by decide +kernel
theorem dL_law_1209 : decode cL_law 1209 = .ok (.iload 7, 2) := by decide +kernel
theorem dL_law_1211 : decode cL_law 1211 = .ok (.i2l, 1) := by decide +kernel
theorem dL_law_1212 : decode cL_law 1212 = .ok (.lcmp, 1) := by decide +kernel
theorem dL_law_1213 : decode cL_law 1213 = .ok (.ifCond .eq 5, 3) := by decide +kernel
theorem dL_law_1216 : decode cL_law 1216 = .ok (.iconst 0, 1) := by decide +kernel
theorem dL_law_1217 : decode cL_law 1217 = .ok (.ireturn, 1) := by decide +kernel
theorem dL_law_1218 : decode cL_law 1218 = .ok (.goto 1027, 3) := by decide +kernel
theorem dL_law_1221 : decode cL_law 1221 = .ok (.aload_n 1, 1) := by decide +kernel
theorem dL_law_1222 : decode cL_law 1222 = .ok (.aload_n 0, 1) := by decide +kernel
theorem dL_law_1223 : decode cL_law 1223 = .ok (.iload 5, 2) := by decide +kernel
theorem dL_law_1225 : decode cL_law 1225 = .ok (.iconst 1, 1) := by decide +kernel
theorem dL_law_1226 : decode cL_law 1226 = .ok (.iadd, 1) := by decide +kernel
theorem dL_law_1227 : decode cL_law 1227 = .ok (.iaload, 1) := by decide +kernel
theorem dL_law_1228 : decode cL_law 1228 = .ok (.aload_n 0, 1) := by decide +kernel
theorem dL_law_1229 : decode cL_law 1229 = .ok (.iload 5, 2) := by decide +kernel
theorem dL_law_1231 : decode cL_law 1231 = .ok (.iconst 2, 1) := by decide +kernel
theorem dL_law_1232 : decode cL_law 1232 = .ok (.iadd, 1) := by decide +kernel
theorem dL_law_1233 : decode cL_law 1233 = .ok (.iaload, 1) := by decide +kernel
theorem dL_law_1234 : decode cL_law 1234 = .ok (.aload_n 0, 1) := by decide +kernel
theorem dL_law_1235 : decode cL_law 1235 = .ok (.iload 5, 2) := by decide +kernel
theorem dL_law_1237 : decode cL_law 1237 = .ok (.iconst 3, 1) := by decide +kernel
theorem dL_law_1238 : decode cL_law 1238 = .ok (.iadd, 1) := by decide +kernel
theorem dL_law_1239 : decode cL_law 1239 = .ok (.iaload, 1) := by decide +kernel
theorem dL_law_1240 : decode cL_law 1240 = .ok (.aload_n 3, 1) := by decide +kernel
theorem dL_law_1241 : decode cL_law 1241 = .ok (.invokestatic 190, 3) := by decide +kernel
theorem dL_law_1244 : decode cL_law 1244 = .ok (.istore 6, 2) := by decide +kernel
theorem dL_law_1246 : decode cL_law 1246 = .ok (.aload_n 2, 1) := by decide +kernel
theorem dL_law_1247 : decode cL_law 1247 = .ok (.aload_n 0, 1) := by decide +kernel
theorem dL_law_1248 : decode cL_law 1248 = .ok (.iload 5, 2) := by decide +kernel
theorem dL_law_1250 : decode cL_law 1250 = .ok (.iconst 1, 1) := by decide +kernel
theorem dL_law_1251 : decode cL_law 1251 = .ok (.iadd, 1) := by decide +kernel
theorem dL_law_1252 : decode cL_law 1252 = .ok (.iaload, 1) := by decide +kernel
theorem dL_law_1253 : decode cL_law 1253 = .ok (.aload_n 0, 1) := by decide +kernel
theorem dL_law_1254 : decode cL_law 1254 = .ok (.iload 5, 2) := by decide +kernel
theorem dL_law_1256 : decode cL_law 1256 = .ok (.iconst 2, 1) := by decide +kernel
theorem dL_law_1257 : decode cL_law 1257 = .ok (.iadd, 1) := by decide +kernel
theorem dL_law_1258 : decode cL_law 1258 = .ok (.iaload, 1) := by decide +kernel
theorem dL_law_1259 : decode cL_law 1259 = .ok (.aload_n 0, 1) := by decide +kernel
theorem dL_law_1260 : decode cL_law 1260 = .ok (.iload 5, 2) := by decide +kernel
theorem dL_law_1262 : decode cL_law 1262 = .ok (.iconst 3, 1) := by decide +kernel
theorem dL_law_1263 : decode cL_law 1263 = .ok (.iadd, 1) := by decide +kernel
theorem dL_law_1264 : decode cL_law 1264 = .ok (.iaload, 1) := by decide +kernel
theorem dL_law_1265 : decode cL_law 1265 = .ok (.invokevirtual 192, 3) := by decide +kernel
theorem dL_law_1268 : decode cL_law 1268 = .ok (.istore 7, 2) := by decide +kernel
theorem dL_law_1270 : decode cL_law 1270 = .ok (.aload_n 2, 1) := by decide +kernel
theorem dL_law_1271 : decode cL_law 1271 = .ok (.invokevirtual 130, 3) := by decide +kernel
theorem dL_law_1274 : decode cL_law 1274 = .ok (.iload 6, 2) := by decide +kernel
theorem dL_law_1276 : decode cL_law 1276 = .ok (.if_icmp .eq 5, 3) := by decide +kernel
theorem dL_law_1279 : decode cL_law 1279 = .ok (.iconst 0, 1) := by decide +kernel
theorem dL_law_1280 : decode cL_law 1280 = .ok (.ireturn, 1) := by decide +kernel
theorem dL_law_1281 : decode cL_law 1281 = .ok (.iload 6, 2) := by decide +kernel
theorem dL_law_1283 : decode cL_law 1283 = .ok (.ifCond .ne 15, 3) := by decide +kernel
theorem dL_law_1286 : decode cL_law 1286 = .ok (.aload_n 3, 1) := by decide +kernel
theorem dL_law_1287 : decode cL_law 1287 = .ok (.iconst 0, 1) := by decide +kernel
theorem dL_law_1288 : decode cL_law 1288 = .ok (.laload, 1) := by decide +kernel
theorem dL_law_1289 : decode cL_law 1289 = .ok (.iload 7, 2) := by decide +kernel
theorem dL_law_1291 : decode cL_law 1291 = .ok (.i2l, 1) := by decide +kernel
theorem dL_law_1292 : decode cL_law 1292 = .ok (.lcmp, 1) := by decide +kernel
theorem dL_law_1293 : decode cL_law 1293 = .ok (.ifCond .eq 5, 3) := by decide +kernel
theorem dL_law_1296 : decode cL_law 1296 = .ok (.iconst 0, 1) := by decide +kernel
theorem dL_law_1297 : decode cL_law 1297 = .ok (.ireturn, 1) := by decide +kernel
theorem dL_law_1298 : decode cL_law 1298 = .ok (.goto 947, 3) := by decide +kernel
theorem dL_law_1301 : decode cL_law 1301 = .ok (.aload_n 1, 1) := by decide +kernel
theorem dL_law_1302 : decode cL_law 1302 = .ok (.aload_n 0, 1) := by decide +kernel
theorem dL_law_1303 : decode cL_law 1303 = .ok (.iload 5, 2) := by decide +kernel
theorem dL_law_1305 : decode cL_law 1305 = .ok (.iconst 1, 1) := by decide +kernel
theorem dL_law_1306 : decode cL_law 1306 = .ok (.iadd, 1) := by decide +kernel
theorem dL_law_1307 : decode cL_law 1307 = .ok (.iaload, 1) := by decide +kernel
theorem dL_law_1308 : decode cL_law 1308 = .ok (.aload_n 3, 1) := by decide +kernel
theorem dL_law_1309 : decode cL_law 1309 = .ok (.invokestatic 193, 3) := by decide +kernel
theorem dL_law_1312 : decode cL_law 1312 = .ok (.istore 6, 2) := by decide +kernel
theorem dL_law_1314 : decode cL_law 1314 = .ok (.aload_n 2, 1) := by decide +kernel
theorem dL_law_1315 : decode cL_law 1315 = .ok (.aload_n 0, 1) := by decide +kernel
theorem dL_law_1316 : decode cL_law 1316 = .ok (.iload 5, 2) := by decide +kernel
theorem dL_law_1318 : decode cL_law 1318 = .ok (.iconst 1, 1) := by decide +kernel
theorem dL_law_1319 : decode cL_law 1319 = .ok (.iadd, 1) := by decide +kernel
theorem dL_law_1320 : decode cL_law 1320 = .ok (.iaload, 1) := by decide +kernel
theorem dL_law_1321 : decode cL_law 1321 = .ok (.invokevirtual 195, 3) := by decide +kernel
theorem dL_law_1324 : decode cL_law 1324 = .ok (.istore 7, 2) := by decide +kernel
theorem dL_law_1326 : decode cL_law 1326 = .ok (.aload_n 2, 1) := by decide +kernel
theorem dL_law_1327 : decode cL_law 1327 = .ok (.invokevirtual 130, 3) := by decide +kernel
theorem dL_law_1330 : decode cL_law 1330 = .ok (.iload 6, 2) := by decide +kernel
theorem dL_law_1332 : decode cL_law 1332 = .ok (.if_icmp .eq 5, 3) := by decide +kernel
theorem dL_law_1335 : decode cL_law 1335 = .ok (.iconst 0, 1) := by decide +kernel
theorem dL_law_1336 : decode cL_law 1336 = .ok (.ireturn, 1) := by decide +kernel
theorem dL_law_1337 : decode cL_law 1337 = .ok (.iload 6, 2) := by decide +kernel
theorem dL_law_1339 : decode cL_law 1339 = .ok (.ifCond .ne 15, 3) := by decide +kernel
theorem dL_law_1342 : decode cL_law 1342 = .ok (.aload_n 3, 1) := by decide +kernel
theorem dL_law_1343 : decode cL_law 1343 = .ok (.iconst 0, 1) := by decide +kernel
theorem dL_law_1344 : decode cL_law 1344 = .ok (.laload, 1) := by decide +kernel
theorem dL_law_1345 : decode cL_law 1345 = .ok (.iload 7, 2) := by decide +kernel
theorem dL_law_1347 : decode cL_law 1347 = .ok (.i2l, 1) := by decide +kernel
theorem dL_law_1348 : decode cL_law 1348 = .ok (.lcmp, 1) := by decide +kernel
theorem dL_law_1349 : decode cL_law 1349 = .ok (.ifCond .eq 5, 3) := by decide +kernel
theorem dL_law_1352 : decode cL_law 1352 = .ok (.iconst 0, 1) := by decide +kernel
theorem dL_law_1353 : decode cL_law 1353 = .ok (.ireturn, 1) := by decide +kernel
theorem dL_law_1354 : decode cL_law 1354 = .ok (.goto 891, 3) := by decide +kernel
theorem dL_law_1357 : decode cL_law 1357 = .ok (.aload_n 1, 1) := by decide +kernel
theorem dL_law_1358 : decode cL_law 1358 = .ok (.aload_n 0, 1) := by decide +kernel
theorem dL_law_1359 : decode cL_law 1359 = .ok (.iload 5, 2) := by decide +kernel
theorem dL_law_1361 : decode cL_law 1361 = .ok (.iconst 1, 1) := by decide +kernel
theorem dL_law_1362 : decode cL_law 1362 = .ok (.iadd, 1) := by decide +kernel
theorem dL_law_1363 : decode cL_law 1363 = .ok (.iaload, 1) := by decide +kernel
theorem dL_law_1364 : decode cL_law 1364 = .ok (.aload_n 0, 1) := by decide +kernel
theorem dL_law_1365 : decode cL_law 1365 = .ok (.iload 5, 2) := by decide +kernel
theorem dL_law_1367 : decode cL_law 1367 = .ok (.iconst 2, 1) := by decide +kernel
theorem dL_law_1368 : decode cL_law 1368 = .ok (.iadd, 1) := by decide +kernel
theorem dL_law_1369 : decode cL_law 1369 = .ok (.iaload, 1) := by decide +kernel
theorem dL_law_1370 : decode cL_law 1370 = .ok (.aload_n 0, 1) := by decide +kernel
theorem dL_law_1371 : decode cL_law 1371 = .ok (.iload 5, 2) := by decide +kernel
theorem dL_law_1373 : decode cL_law 1373 = .ok (.iconst 3, 1) := by decide +kernel
theorem dL_law_1374 : decode cL_law 1374 = .ok (.iadd, 1) := by decide +kernel
theorem dL_law_1375 : decode cL_law 1375 = .ok (.iaload, 1) := by decide +kernel
theorem dL_law_1376 : decode cL_law 1376 = .ok (.aload_n 3, 1) := by decide +kernel
theorem dL_law_1377 : decode cL_law 1377 = .ok (.invokestatic 196, 3) := by decide +kernel
theorem dL_law_1380 : decode cL_law 1380 = .ok (.istore 6, 2) := by decide +kernel
theorem dL_law_1382 : decode cL_law 1382 = .ok (.aload_n 2, 1) := by decide +kernel
theorem dL_law_1383 : decode cL_law 1383 = .ok (.aload_n 0, 1) := by decide +kernel
theorem dL_law_1384 : decode cL_law 1384 = .ok (.iload 5, 2) := by decide +kernel
theorem dL_law_1386 : decode cL_law 1386 = .ok (.iconst 1, 1) := by decide +kernel
theorem dL_law_1387 : decode cL_law 1387 = .ok (.iadd, 1) := by decide +kernel
theorem dL_law_1388 : decode cL_law 1388 = .ok (.iaload, 1) := by decide +kernel
theorem dL_law_1389 : decode cL_law 1389 = .ok (.aload_n 0, 1) := by decide +kernel
theorem dL_law_1390 : decode cL_law 1390 = .ok (.iload 5, 2) := by decide +kernel
theorem dL_law_1392 : decode cL_law 1392 = .ok (.iconst 2, 1) := by decide +kernel
theorem dL_law_1393 : decode cL_law 1393 = .ok (.iadd, 1) := by decide +kernel
theorem dL_law_1394 : decode cL_law 1394 = .ok (.iaload, 1) := by decide +kernel
theorem dL_law_1395 : decode cL_law 1395 = .ok (.aload_n 0, 1) := by decide +kernel
theorem dL_law_1396 : decode cL_law 1396 = .ok (.iload 5, 2) := by decide +kernel
theorem dL_law_1398 : decode cL_law 1398 = .ok (.iconst 3, 1) := by decide +kernel
theorem dL_law_1399 : decode cL_law 1399 = .ok (.iadd, 1) := by decide +kernel
theorem dL_law_1400 : decode cL_law 1400 = .ok (.iaload, 1) := by decide +kernel
theorem dL_law_1401 : decode cL_law 1401 = .ok (.invokevirtual 198, 3) := by decide +kernel
theorem dL_law_1404 : decode cL_law 1404 = .ok (.istore 7, 2) := by decide +kernel
theorem dL_law_1406 : decode cL_law 1406 = .ok (.aload_n 2, 1) := by decide +kernel
theorem dL_law_1407 : decode cL_law 1407 = .ok (.invokevirtual 130, 3) := by decide +kernel
theorem dL_law_1410 : decode cL_law 1410 = .ok (.iload 6, 2) := by decide +kernel
theorem dL_law_1412 : decode cL_law 1412 = .ok (.if_icmp .eq 5, 3) := by decide +kernel
theorem dL_law_1415 : decode cL_law 1415 = .ok (.iconst 0, 1) := by decide +kernel
theorem dL_law_1416 : decode cL_law 1416 = .ok (.ireturn, 1) := by decide +kernel
theorem dL_law_1417 : decode cL_law 1417 = .ok (.iload 6, 2) := by decide +kernel
theorem dL_law_1419 : decode cL_law 1419 = .ok (.ifCond .ne 15, 3) := by decide +kernel
theorem dL_law_1422 : decode cL_law 1422 = .ok (.aload_n 3, 1) := by decide +kernel
theorem dL_law_1423 : decode cL_law 1423 = .ok (.iconst 0, 1) := by decide +kernel
theorem dL_law_1424 : decode cL_law 1424 = .ok (.laload, 1) := by decide +kernel
theorem dL_law_1425 : decode cL_law 1425 = .ok (.iload 7, 2) := by decide +kernel
theorem dL_law_1427 : decode cL_law 1427 = .ok (.i2l, 1) := by decide +kernel
theorem dL_law_1428 : decode cL_law 1428 = .ok (.lcmp, 1) := by decide +kernel
theorem dL_law_1429 : decode cL_law 1429 = .ok (.ifCond .eq 5, 3) := by decide +kernel
theorem dL_law_1432 : decode cL_law 1432 = .ok (.iconst 0, 1) := by decide +kernel
theorem dL_law_1433 : decode cL_law 1433 = .ok (.ireturn, 1) := by decide +kernel
theorem dL_law_1434 : decode cL_law 1434 = .ok (.goto 811, 3) := by decide +kernel
theorem dL_law_1437 : decode cL_law 1437 = .ok (.aload_n 1, 1) := by decide +kernel
theorem dL_law_1438 : decode cL_law 1438 = .ok (.aload_n 0, 1) := by decide +kernel
theorem dL_law_1439 : decode cL_law 1439 = .ok (.iload 5, 2) := by decide +kernel
theorem dL_law_1441 : decode cL_law 1441 = .ok (.iconst 1, 1) := by decide +kernel
theorem dL_law_1442 : decode cL_law 1442 = .ok (.iadd, 1) := by decide +kernel
theorem dL_law_1443 : decode cL_law 1443 = .ok (.iaload, 1) := by decide +kernel
theorem dL_law_1444 : decode cL_law 1444 = .ok (.aload_n 0, 1) := by decide +kernel
theorem dL_law_1445 : decode cL_law 1445 = .ok (.iload 5, 2) := by decide +kernel
theorem dL_law_1447 : decode cL_law 1447 = .ok (.iconst 2, 1) := by decide +kernel
theorem dL_law_1448 : decode cL_law 1448 = .ok (.iadd, 1) := by decide +kernel
theorem dL_law_1449 : decode cL_law 1449 = .ok (.iaload, 1) := by decide +kernel
theorem dL_law_1450 : decode cL_law 1450 = .ok (.aload_n 3, 1) := by decide +kernel
theorem dL_law_1451 : decode cL_law 1451 = .ok (.invokestatic 199, 3) := by decide +kernel
theorem dL_law_1454 : decode cL_law 1454 = .ok (.istore 6, 2) := by decide +kernel
theorem dL_law_1456 : decode cL_law 1456 = .ok (.aload_n 2, 1) := by decide +kernel
theorem dL_law_1457 : decode cL_law 1457 = .ok (.aload_n 0, 1) := by decide +kernel
theorem dL_law_1458 : decode cL_law 1458 = .ok (.iload 5, 2) := by decide +kernel
theorem dL_law_1460 : decode cL_law 1460 = .ok (.iconst 1, 1) := by decide +kernel
theorem dL_law_1461 : decode cL_law 1461 = .ok (.iadd, 1) := by decide +kernel
theorem dL_law_1462 : decode cL_law 1462 = .ok (.iaload, 1) := by decide +kernel
theorem dL_law_1463 : decode cL_law 1463 = .ok (.aload_n 0, 1) := by decide +kernel
theorem dL_law_1464 : decode cL_law 1464 = .ok (.iload 5, 2) := by decide +kernel
theorem dL_law_1466 : decode cL_law 1466 = .ok (.iconst 2, 1) := by decide +kernel
theorem dL_law_1467 : decode cL_law 1467 = .ok (.iadd, 1) := by decide +kernel
theorem dL_law_1468 : decode cL_law 1468 = .ok (.iaload, 1) := by decide +kernel
theorem dL_law_1469 : decode cL_law 1469 = .ok (.invokevirtual 201, 3) := by decide +kernel
theorem dL_law_1472 : decode cL_law 1472 = .ok (.istore 7, 2) := by decide +kernel
theorem dL_law_1474 : decode cL_law 1474 = .ok (.aload_n 2, 1) := by decide +kernel
theorem dL_law_1475 : decode cL_law 1475 = .ok (.invokevirtual 130, 3) := by decide +kernel
theorem dL_law_1478 : decode cL_law 1478 = .ok (.iload 6, 2) := by decide +kernel
theorem dL_law_1480 : decode cL_law 1480 = .ok (.if_icmp .eq 5, 3) := by decide +kernel
theorem dL_law_1483 : decode cL_law 1483 = .ok (.iconst 0, 1) := by decide +kernel
theorem dL_law_1484 : decode cL_law 1484 = .ok (.ireturn, 1) := by decide +kernel
theorem dL_law_1485 : decode cL_law 1485 = .ok (.iload 6, 2) := by decide +kernel
theorem dL_law_1487 : decode cL_law 1487 = .ok (.ifCond .ne 15, 3) := by decide +kernel
theorem dL_law_1490 : decode cL_law 1490 = .ok (.aload_n 3, 1) := by decide +kernel
theorem dL_law_1491 : decode cL_law 1491 = .ok (.iconst 0, 1) := by decide +kernel
theorem dL_law_1492 : decode cL_law 1492 = .ok (.laload, 1) := by decide +kernel
theorem dL_law_1493 : decode cL_law 1493 = .ok (.iload 7, 2) := by decide +kernel
theorem dL_law_1495 : decode cL_law 1495 = .ok (.i2l, 1) := by decide +kernel
theorem dL_law_1496 : decode cL_law 1496 = .ok (.lcmp, 1) := by decide +kernel
theorem dL_law_1497 : decode cL_law 1497 = .ok (.ifCond .eq 5, 3) := by decide +kernel
theorem dL_law_1500 : decode cL_law 1500 = .ok (.iconst 0, 1) := by decide +kernel
theorem dL_law_1501 : decode cL_law 1501 = .ok (.ireturn, 1) := by decide +kernel
theorem dL_law_1502 : decode cL_law 1502 = .ok (.goto 743, 3) := by decide +kernel
theorem dL_law_1505 : decode cL_law 1505 = .ok (.aload_n 1, 1) := by decide +kernel
theorem dL_law_1506 : decode cL_law 1506 = .ok (.aload_n 0, 1) := by decide +kernel
theorem dL_law_1507 : decode cL_law 1507 = .ok (.iload 5, 2) := by decide +kernel
theorem dL_law_1509 : decode cL_law 1509 = .ok (.iconst 1, 1) := by decide +kernel
theorem dL_law_1510 : decode cL_law 1510 = .ok (.iadd, 1) := by decide +kernel
theorem dL_law_1511 : decode cL_law 1511 = .ok (.iaload, 1) := by decide +kernel
theorem dL_law_1512 : decode cL_law 1512 = .ok (.aload_n 3, 1) := by decide +kernel
theorem dL_law_1513 : decode cL_law 1513 = .ok (.invokestatic 202, 3) := by decide +kernel
theorem dL_law_1516 : decode cL_law 1516 = .ok (.istore 6, 2) := by decide +kernel
theorem dL_law_1518 : decode cL_law 1518 = .ok (.aload_n 2, 1) := by decide +kernel
theorem dL_law_1519 : decode cL_law 1519 = .ok (.aload_n 0, 1) := by decide +kernel
theorem dL_law_1520 : decode cL_law 1520 = .ok (.iload 5, 2) := by decide +kernel
theorem dL_law_1522 : decode cL_law 1522 = .ok (.iconst 1, 1) := by decide +kernel
theorem dL_law_1523 : decode cL_law 1523 = .ok (.iadd, 1) := by decide +kernel
theorem dL_law_1524 : decode cL_law 1524 = .ok (.iaload, 1) := by decide +kernel
theorem dL_law_1525 : decode cL_law 1525 = .ok (.invokevirtual 204, 3) := by decide +kernel
theorem dL_law_1528 : decode cL_law 1528 = .ok (.istore 7, 2) := by decide +kernel
theorem dL_law_1530 : decode cL_law 1530 = .ok (.aload_n 2, 1) := by decide +kernel
theorem dL_law_1531 : decode cL_law 1531 = .ok (.invokevirtual 130, 3) := by decide +kernel
theorem dL_law_1534 : decode cL_law 1534 = .ok (.iload 6, 2) := by decide +kernel
theorem dL_law_1536 : decode cL_law 1536 = .ok (.if_icmp .eq 5, 3) := by decide +kernel
theorem dL_law_1539 : decode cL_law 1539 = .ok (.iconst 0, 1) := by decide +kernel
theorem dL_law_1540 : decode cL_law 1540 = .ok (.ireturn, 1) := by decide +kernel
theorem dL_law_1541 : decode cL_law 1541 = .ok (.iload 6, 2) := by decide +kernel
theorem dL_law_1543 : decode cL_law 1543 = .ok (.ifCond .ne 15, 3) := by decide +kernel
theorem dL_law_1546 : decode cL_law 1546 = .ok (.aload_n 3, 1) := by decide +kernel
theorem dL_law_1547 : decode cL_law 1547 = .ok (.iconst 0, 1) := by decide +kernel
theorem dL_law_1548 : decode cL_law 1548 = .ok (.laload, 1) := by decide +kernel
theorem dL_law_1549 : decode cL_law 1549 = .ok (.iload 7, 2) := by decide +kernel
theorem dL_law_1551 : decode cL_law 1551 = .ok (.i2l, 1) := by decide +kernel
theorem dL_law_1552 : decode cL_law 1552 = .ok (.lcmp, 1) := by decide +kernel
theorem dL_law_1553 : decode cL_law 1553 = .ok (.ifCond .eq 5, 3) := by decide +kernel
theorem dL_law_1556 : decode cL_law 1556 = .ok (.iconst 0, 1) := by decide +kernel
theorem dL_law_1557 : decode cL_law 1557 = .ok (.ireturn, 1) := by decide +kernel
theorem dL_law_1558 : decode cL_law 1558 = .ok (.goto 687, 3) := by decide +kernel
theorem dL_law_1561 : decode cL_law 1561 = .ok (.aload_n 1, 1) := by decide +kernel
theorem dL_law_1562 : decode cL_law 1562 = .ok (.aload_n 0, 1) := by decide +kernel
theorem dL_law_1563 : decode cL_law 1563 = .ok (.iload 5, 2) := by decide +kernel
theorem dL_law_1565 : decode cL_law 1565 = .ok (.iconst 1, 1) := by decide +kernel
theorem dL_law_1566 : decode cL_law 1566 = .ok (.iadd, 1) := by decide +kernel
theorem dL_law_1567 : decode cL_law 1567 = .ok (.iaload, 1) := by decide +kernel
theorem dL_law_1568 : decode cL_law 1568 = .ok (.aload_n 3, 1) := by decide +kernel
theorem dL_law_1569 : decode cL_law 1569 = .ok (.invokestatic 205, 3) := by decide +kernel
theorem dL_law_1572 : decode cL_law 1572 = .ok (.istore 6, 2) := by decide +kernel
theorem dL_law_1574 : decode cL_law 1574 = .ok (.aload_n 2, 1) := by decide +kernel
theorem dL_law_1575 : decode cL_law 1575 = .ok (.aload_n 0, 1) := by decide +kernel
theorem dL_law_1576 : decode cL_law 1576 = .ok (.iload 5, 2) := by decide +kernel
theorem dL_law_1578 : decode cL_law 1578 = .ok (.iconst 1, 1) := by decide +kernel
theorem dL_law_1579 : decode cL_law 1579 = .ok (.iadd, 1) := by decide +kernel
theorem dL_law_1580 : decode cL_law 1580 = .ok (.iaload, 1) := by decide +kernel
theorem dL_law_1581 : decode cL_law 1581 = .ok (.invokevirtual 207, 3) := by decide +kernel
theorem dL_law_1584 : decode cL_law 1584 = .ok (.istore 7, 2) := by decide +kernel
theorem dL_law_1586 : decode cL_law 1586 = .ok (.aload_n 2, 1) := by decide +kernel
theorem dL_law_1587 : decode cL_law 1587 = .ok (.invokevirtual 130, 3) := by decide +kernel
theorem dL_law_1590 : decode cL_law 1590 = .ok (.iload 6, 2) := by decide +kernel
theorem dL_law_1592 : decode cL_law 1592 = .ok (.if_icmp .eq 5, 3) := by decide +kernel
theorem dL_law_1595 : decode cL_law 1595 = .ok (.iconst 0, 1) := by decide +kernel
theorem dL_law_1596 : decode cL_law 1596 = .ok (.ireturn, 1) := by decide +kernel
theorem dL_law_1597 : decode cL_law 1597 = .ok (.iload 6, 2) := by decide +kernel
theorem dL_law_1599 : decode cL_law 1599 = .ok (.ifCond .ne 15, 3) := by decide +kernel
theorem dL_law_1602 : decode cL_law 1602 = .ok (.aload_n 3, 1) := by decide +kernel
theorem dL_law_1603 : decode cL_law 1603 = .ok (.iconst 0, 1) := by decide +kernel
theorem dL_law_1604 : decode cL_law 1604 = .ok (.laload, 1) := by decide +kernel
theorem dL_law_1605 : decode cL_law 1605 = .ok (.iload 7, 2) := by decide +kernel
theorem dL_law_1607 : decode cL_law 1607 = .ok (.i2l, 1) := by decide +kernel
theorem dL_law_1608 : decode cL_law 1608 = .ok (.lcmp, 1) := by decide +kernel
theorem dL_law_1609 : decode cL_law 1609 = .ok (.ifCond .eq 5, 3) := by decide +kernel
theorem dL_law_1612 : decode cL_law 1612 = .ok (.iconst 0, 1) := by decide +kernel
theorem dL_law_1613 : decode cL_law 1613 = .ok (.ireturn, 1) := by decide +kernel
theorem dL_law_1614 : decode cL_law 1614 = .ok (.goto 631, 3) := by decide +kernel
theorem dL_law_1617 : decode cL_law 1617 = .ok (.aload_n 1, 1) := by decide +kernel
theorem dL_law_1618 : decode cL_law 1618 = .ok (.aload_n 0, 1) := by decide +kernel
theorem dL_law_1619 : decode cL_law 1619 = .ok (.iload 5, 2) := by decide +kernel
theorem dL_law_1621 : decode cL_law 1621 = .ok (.iconst 1, 1) := by decide +kernel
theorem dL_law_1622 : decode cL_law 1622 = .ok (.iadd, 1) := by decide +kernel
theorem dL_law_1623 : decode cL_law 1623 = .ok (.iaload, 1) := by decide +kernel
theorem dL_law_1624 : decode cL_law 1624 = .ok (.aload_n 3, 1) := by decide +kernel
theorem dL_law_1625 : decode cL_law 1625 = .ok (.invokestatic 208, 3) := by decide +kernel
theorem dL_law_1628 : decode cL_law 1628 = .ok (.istore 6, 2) := by decide +kernel
theorem dL_law_1630 : decode cL_law 1630 = .ok (.aload_n 2, 1) := by decide +kernel
theorem dL_law_1631 : decode cL_law 1631 = .ok (.aload_n 0, 1) := by decide +kernel
theorem dL_law_1632 : decode cL_law 1632 = .ok (.iload 5, 2) := by decide +kernel
theorem dL_law_1634 : decode cL_law 1634 = .ok (.iconst 1, 1) := by decide +kernel
theorem dL_law_1635 : decode cL_law 1635 = .ok (.iadd, 1) := by decide +kernel
theorem dL_law_1636 : decode cL_law 1636 = .ok (.iaload, 1) := by decide +kernel
theorem dL_law_1637 : decode cL_law 1637 = .ok (.invokevirtual 210, 3) := by decide +kernel
theorem dL_law_1640 : decode cL_law 1640 = .ok (.istore 7, 2) := by decide +kernel
theorem dL_law_1642 : decode cL_law 1642 = .ok (.aload_n 2, 1) := by decide +kernel
theorem dL_law_1643 : decode cL_law 1643 = .ok (.invokevirtual 130, 3) := by decide +kernel
theorem dL_law_1646 : decode cL_law 1646 = .ok (.iload 6, 2) := by decide +kernel
theorem dL_law_1648 : decode cL_law 1648 = .ok (.if_icmp .eq 5, 3) := by decide +kernel
theorem dL_law_1651 : decode cL_law 1651 = .ok (.iconst 0, 1) := by decide +kernel
theorem dL_law_1652 : decode cL_law 1652 = .ok (.ireturn, 1) := by decide +kernel
theorem dL_law_1653 : decode cL_law 1653 = .ok (.iload 6, 2) := by decide +kernel
theorem dL_law_1655 : decode cL_law 1655 = .ok (.ifCond .ne 15, 3) := by decide +kernel
theorem dL_law_1658 : decode cL_law 1658 = .ok (.aload_n 3, 1) := by decide +kernel
theorem dL_law_1659 : decode cL_law 1659 = .ok (.iconst 0, 1) := by decide +kernel
theorem dL_law_1660 : decode cL_law 1660 = .ok (.laload, 1) := by decide +kernel
theorem dL_law_1661 : decode cL_law 1661 = .ok (.iload 7, 2) := by decide +kernel
theorem dL_law_1663 : decode cL_law 1663 = .ok (.i2l, 1) := by decide +kernel
theorem dL_law_1664 : decode cL_law 1664 = .ok (.lcmp, 1) := by decide +kernel
theorem dL_law_1665 : decode cL_law 1665 = .ok (.ifCond .eq 5, 3) := by decide +kernel
theorem dL_law_1668 : decode cL_law 1668 = .ok (.iconst 0, 1) := by decide +kernel
theorem dL_law_1669 : decode cL_law 1669 = .ok (.ireturn, 1) := by decide +kernel
theorem dL_law_1670 : decode cL_law 1670 = .ok (.goto 575, 3) := by decide +kernel
theorem dL_law_1673 : decode cL_law 1673 = .ok (.aload_n 1, 1) := by decide +kernel
theorem dL_law_1674 : decode cL_law 1674 = .ok (.aload_n 0, 1) := by decide +kernel
theorem dL_law_1675 : decode cL_law 1675 = .ok (.iload 5, 2) := by decide +kernel
theorem dL_law_1677 : decode cL_law 1677 = .ok (.iconst 1, 1) := by decide +kernel
theorem dL_law_1678 : decode cL_law 1678 = .ok (.iadd, 1) := by decide +kernel
theorem dL_law_1679 : decode cL_law 1679 = .ok (.iaload, 1) := by decide +kernel
theorem dL_law_1680 : decode cL_law 1680 = .ok (.aload_n 3, 1) := by decide +kernel
theorem dL_law_1681 : decode cL_law 1681 = .ok (.invokestatic 211, 3) := by decide +kernel
theorem dL_law_1684 : decode cL_law 1684 = .ok (.istore 6, 2) := by decide +kernel
theorem dL_law_1686 : decode cL_law 1686 = .ok (.aload_n 2, 1) := by decide +kernel
theorem dL_law_1687 : decode cL_law 1687 = .ok (.aload_n 0, 1) := by decide +kernel
theorem dL_law_1688 : decode cL_law 1688 = .ok (.iload 5, 2) := by decide +kernel
theorem dL_law_1690 : decode cL_law 1690 = .ok (.iconst 1, 1) := by decide +kernel
theorem dL_law_1691 : decode cL_law 1691 = .ok (.iadd, 1) := by decide +kernel
theorem dL_law_1692 : decode cL_law 1692 = .ok (.iaload, 1) := by decide +kernel
theorem dL_law_1693 : decode cL_law 1693 = .ok (.invokevirtual 213, 3) := by decide +kernel
theorem dL_law_1696 : decode cL_law 1696 = .ok (.istore 7, 2) := by decide +kernel
theorem dL_law_1698 : decode cL_law 1698 = .ok (.aload_n 2, 1) := by decide +kernel
theorem dL_law_1699 : decode cL_law 1699 = .ok (.invokevirtual 130, 3) := by decide +kernel
theorem dL_law_1702 : decode cL_law 1702 = .ok (.iload 6, 2) := by decide +kernel
theorem dL_law_1704 : decode cL_law 1704 = .ok (.if_icmp .eq 5, 3) := by decide +kernel
theorem dL_law_1707 : decode cL_law 1707 = .ok (.iconst 0, 1) := by decide +kernel
theorem dL_law_1708 : decode cL_law 1708 = .ok (.ireturn, 1) := by decide +kernel
theorem dL_law_1709 : decode cL_law 1709 = .ok (.iload 6, 2) := by decide +kernel
theorem dL_law_1711 : decode cL_law 1711 = .ok (.ifCond .ne 15, 3) := by decide +kernel
theorem dL_law_1714 : decode cL_law 1714 = .ok (.aload_n 3, 1) := by decide +kernel
theorem dL_law_1715 : decode cL_law 1715 = .ok (.iconst 0, 1) := by decide +kernel
theorem dL_law_1716 : decode cL_law 1716 = .ok (.laload, 1) := by decide +kernel
theorem dL_law_1717 : decode cL_law 1717 = .ok (.iload 7, 2) := by decide +kernel
theorem dL_law_1719 : decode cL_law 1719 = .ok (.i2l, 1) := by decide +kernel
theorem dL_law_1720 : decode cL_law 1720 = .ok (.lcmp, 1) := by decide +kernel
theorem dL_law_1721 : decode cL_law 1721 = .ok (.ifCond .eq 5, 3) := by decide +kernel
theorem dL_law_1724 : decode cL_law 1724 = .ok (.iconst 0, 1) := by decide +kernel
theorem dL_law_1725 : decode cL_law 1725 = .ok (.ireturn, 1) := by decide +kernel
theorem dL_law_1726 : decode cL_law 1726 = .ok (.goto 519, 3) := by decide +kernel
theorem dL_law_1729 : decode cL_law 1729 = .ok (.aload_n 1, 1) := by decide +kernel
theorem dL_law_1730 : decode cL_law 1730 = .ok (.aload_n 0, 1) := by decide +kernel
theorem dL_law_1731 : decode cL_law 1731 = .ok (.iload 5, 2) := by decide +kernel
theorem dL_law_1733 : decode cL_law 1733 = .ok (.iconst 1, 1) := by decide +kernel
theorem dL_law_1734 : decode cL_law 1734 = .ok (.iadd, 1) := by decide +kernel
theorem dL_law_1735 : decode cL_law 1735 = .ok (.iaload, 1) := by decide +kernel
theorem dL_law_1736 : decode cL_law 1736 = .ok (.aload_n 3, 1) := by decide +kernel
theorem dL_law_1737 : decode cL_law 1737 = .ok (.invokestatic 214, 3) := by decide +kernel
theorem dL_law_1740 : decode cL_law 1740 = .ok (.istore 6, 2) := by decide +kernel
theorem dL_law_1742 : decode cL_law 1742 = .ok (.aload_n 2, 1) := by decide +kernel
theorem dL_law_1743 : decode cL_law 1743 = .ok (.aload_n 0, 1) := by decide +kernel
theorem dL_law_1744 : decode cL_law 1744 = .ok (.iload 5, 2) := by decide +kernel
theorem dL_law_1746 : decode cL_law 1746 = .ok (.iconst 1, 1) := by decide +kernel
theorem dL_law_1747 : decode cL_law 1747 = .ok (.iadd, 1) := by decide +kernel
theorem dL_law_1748 : decode cL_law 1748 = .ok (.iaload, 1) := by decide +kernel
theorem dL_law_1749 : decode cL_law 1749 = .ok (.invokevirtual 216, 3) := by decide +kernel
theorem dL_law_1752 : decode cL_law 1752 = .ok (.istore 7, 2) := by decide +kernel
theorem dL_law_1754 : decode cL_law 1754 = .ok (.aload_n 2, 1) := by decide +kernel
theorem dL_law_1755 : decode cL_law 1755 = .ok (.invokevirtual 130, 3) := by decide +kernel
theorem dL_law_1758 : decode cL_law 1758 = .ok (.iload 6, 2) := by decide +kernel
theorem dL_law_1760 : decode cL_law 1760 = .ok (.if_icmp .eq 5, 3) := by decide +kernel
theorem dL_law_1763 : decode cL_law 1763 = .ok (.iconst 0, 1) := by decide +kernel
theorem dL_law_1764 : decode cL_law 1764 = .ok (.ireturn, 1) := by decide +kernel
theorem dL_law_1765 : decode cL_law 1765 = .ok (.iload 6, 2) := by decide +kernel
theorem dL_law_1767 : decode cL_law 1767 = .ok (.ifCond .ne 15, 3) := by decide +kernel
theorem dL_law_1770 : decode cL_law 1770 = .ok (.aload_n 3, 1) := by decide +kernel
theorem dL_law_1771 : decode cL_law 1771 = .ok (.iconst 0, 1) := by decide +kernel
theorem dL_law_1772 : decode cL_law 1772 = .ok (.laload, 1) := by decide +kernel
theorem dL_law_1773 : decode cL_law 1773 = .ok (.iload 7, 2) := by decide +kernel
theorem dL_law_1775 : decode cL_law 1775 = .ok (.i2l, 1) := by decide +kernel
theorem dL_law_1776 : decode cL_law 1776 = .ok (.lcmp, 1) := by decide +kernel
theorem dL_law_1777 : decode cL_law 1777 = .ok (.ifCond .eq 5, 3) := by decide +kernel
theorem dL_law_1780 : decode cL_law 1780 = .ok (.iconst 0, 1) := by decide +kernel
theorem dL_law_1781 : decode cL_law 1781 = .ok (.ireturn, 1) := by decide +kernel
theorem dL_law_1782 : decode cL_law 1782 = .ok (.goto 463, 3) := by decide +kernel
theorem dL_law_1785 : decode cL_law 1785 = .ok (.aload_n 1, 1) := by decide +kernel
theorem dL_law_1786 : decode cL_law 1786 = .ok (.aload_n 0, 1) := by decide +kernel
theorem dL_law_1787 : decode cL_law 1787 = .ok (.iload 5, 2) := by decide +kernel
theorem dL_law_1789 : decode cL_law 1789 = .ok (.iconst 1, 1) := by decide +kernel
theorem dL_law_1790 : decode cL_law 1790 = .ok (.iadd, 1) := by decide +kernel
theorem dL_law_1791 : decode cL_law 1791 = .ok (.iaload, 1) := by decide +kernel
theorem dL_law_1792 : decode cL_law 1792 = .ok (.aload_n 0, 1) := by decide +kernel
theorem dL_law_1793 : decode cL_law 1793 = .ok (.iload 5, 2) := by decide +kernel
theorem dL_law_1795 : decode cL_law 1795 = .ok (.iconst 2, 1) := by decide +kernel
theorem dL_law_1796 : decode cL_law 1796 = .ok (.iadd, 1) := by decide +kernel
theorem dL_law_1797 : decode cL_law 1797 = .ok (.iaload, 1) := by decide +kernel
theorem dL_law_1798 : decode cL_law 1798 = .ok (.aload_n 0, 1) := by decide +kernel
theorem dL_law_1799 : decode cL_law 1799 = .ok (.iload 5, 2) := by decide +kernel
theorem dL_law_1801 : decode cL_law 1801 = .ok (.iconst 3, 1) := by decide +kernel
theorem dL_law_1802 : decode cL_law 1802 = .ok (.iadd, 1) := by decide +kernel
theorem dL_law_1803 : decode cL_law 1803 = .ok (.iaload, 1) := by decide +kernel
theorem dL_law_1804 : decode cL_law 1804 = .ok (.ifCond .eq 7, 3) := by decide +kernel
theorem dL_law_1807 : decode cL_law 1807 = .ok (.iconst 1, 1) := by decide +kernel
theorem dL_law_1808 : decode cL_law 1808 = .ok (.goto 4, 3) := by decide +kernel
theorem dL_law_1811 : decode cL_law 1811 = .ok (.iconst 0, 1) := by decide +kernel
theorem dL_law_1812 : decode cL_law 1812 = .ok (.aload_n 3, 1) := by decide +kernel
theorem dL_law_1813 : decode cL_law 1813 = .ok (.invokestatic 217, 3) := by decide +kernel
theorem dL_law_1816 : decode cL_law 1816 = .ok (.istore 6, 2) := by decide +kernel
theorem dL_law_1818 : decode cL_law 1818 = .ok (.aload_n 2, 1) := by decide +kernel
theorem dL_law_1819 : decode cL_law 1819 = .ok (.aload_n 0, 1) := by decide +kernel
theorem dL_law_1820 : decode cL_law 1820 = .ok (.iload 5, 2) := by decide +kernel
theorem dL_law_1822 : decode cL_law 1822 = .ok (.iconst 1, 1) := by decide +kernel
theorem dL_law_1823 : decode cL_law 1823 = .ok (.iadd, 1) := by decide +kernel
theorem dL_law_1824 : decode cL_law 1824 = .ok (.iaload, 1) := by decide +kernel
theorem dL_law_1825 : decode cL_law 1825 = .ok (.aload_n 0, 1) := by decide +kernel
theorem dL_law_1826 : decode cL_law 1826 = .ok (.iload 5, 2) := by decide +kernel
theorem dL_law_1828 : decode cL_law 1828 = .ok (.iconst 2, 1) := by decide +kernel
theorem dL_law_1829 : decode cL_law 1829 = .ok (.iadd, 1) := by decide +kernel
theorem dL_law_1830 : decode cL_law 1830 = .ok (.iaload, 1) := by decide +kernel
theorem dL_law_1831 : decode cL_law 1831 = .ok (.aload_n 0, 1) := by decide +kernel
theorem dL_law_1832 : decode cL_law 1832 = .ok (.iload 5, 2) := by decide +kernel
theorem dL_law_1834 : decode cL_law 1834 = .ok (.iconst 3, 1) := by decide +kernel
theorem dL_law_1835 : decode cL_law 1835 = .ok (.iadd, 1) := by decide +kernel
theorem dL_law_1836 : decode cL_law 1836 = .ok (.iaload, 1) := by decide +kernel
theorem dL_law_1837 : decode cL_law 1837 = .ok (.ifCond .eq 7, 3) := by decide +kernel
theorem dL_law_1840 : decode cL_law 1840 = .ok (.iconst 1, 1) := by decide +kernel
theorem dL_law_1841 : decode cL_law 1841 = .ok (.goto 4, 3) := by decide +kernel
theorem dL_law_1844 : decode cL_law 1844 = .ok (.iconst 0, 1) := by decide +kernel
theorem dL_law_1845 : decode cL_law 1845 = .ok (.invokevirtual 220, 3) := by decide +kernel
theorem dL_law_1848 : decode cL_law 1848 = .ok (.istore 7, 2) := by decide +kernel
theorem dL_law_1850 : decode cL_law 1850 = .ok (.aload_n 2, 1) := by decide +kernel
theorem dL_law_1851 : decode cL_law 1851 = .ok (.invokevirtual 130, 3) := by decide +kernel
theorem dL_law_1854 : decode cL_law 1854 = .ok (.iload 6, 2) := by decide +kernel
theorem dL_law_1856 : decode cL_law 1856 = .ok (.if_icmp .eq 5, 3) := by decide +kernel
theorem dL_law_1859 : decode cL_law 1859 = .ok (.iconst 0, 1) := by decide +kernel
theorem dL_law_1860 : decode cL_law 1860 = .ok (.ireturn, 1) := by decide +kernel
theorem dL_law_1861 : decode cL_law 1861 = .ok (.iload 6, 2) := by decide +kernel
theorem dL_law_1863 : decode cL_law 1863 = .ok (.ifCond .ne 15, 3) := by decide +kernel
theorem dL_law_1866 : decode cL_law 1866 = .ok (.aload_n 3, 1) := by decide +kernel
theorem dL_law_1867 : decode cL_law 1867 = .ok (.iconst 0, 1) := by decide +kernel
theorem dL_law_1868 : decode cL_law 1868 = .ok (.laload, 1) := by decide +kernel
theorem dL_law_1869 : decode cL_law 1869 = .ok (.iload 7, 2) := by decide +kernel
theorem dL_law_1871 : decode cL_law 1871 = .ok (.i2l, 1) := by decide +kernel
theorem dL_law_1872 : decode cL_law 1872 = .ok (.lcmp, 1) := by decide +kernel
theorem dL_law_1873 : decode cL_law 1873 = .ok (.ifCond .eq 5, 3) := by decide +kernel
theorem dL_law_1876 : decode cL_law 1876 = .ok (.iconst 0, 1) := by decide +kernel
theorem dL_law_1877 : decode cL_law 1877 = .ok (.ireturn, 1) := by decide +kernel
theorem dL_law_1878 : decode cL_law 1878 = .ok (.goto 367, 3) := by decide +kernel
theorem dL_law_1881 : decode cL_law 1881 = .ok (.aload_n 1, 1) := by decide +kernel
theorem dL_law_1882 : decode cL_law 1882 = .ok (.aload_n 0, 1) := by decide +kernel
theorem dL_law_1883 : decode cL_law 1883 = .ok (.iload 5, 2) := by decide +kernel
theorem dL_law_1885 : decode cL_law 1885 = .ok (.iconst 1, 1) := by decide +kernel
theorem dL_law_1886 : decode cL_law 1886 = .ok (.iadd, 1) := by decide +kernel
theorem dL_law_1887 : decode cL_law 1887 = .ok (.iaload, 1) := by decide +kernel
theorem dL_law_1888 : decode cL_law 1888 = .ok (.aload_n 0, 1) := by decide +kernel
theorem dL_law_1889 : decode cL_law 1889 = .ok (.iload 5, 2) := by decide +kernel
theorem dL_law_1891 : decode cL_law 1891 = .ok (.iconst 2, 1) := by decide +kernel
theorem dL_law_1892 : decode cL_law 1892 = .ok (.iadd, 1) := by decide +kernel
theorem dL_law_1893 : decode cL_law 1893 = .ok (.iaload, 1) := by decide +kernel
theorem dL_law_1894 : decode cL_law 1894 = .ok (.aload_n 3, 1) := by decide +kernel
theorem dL_law_1895 : decode cL_law 1895 = .ok (.invokestatic 221, 3) := by decide +kernel
theorem dL_law_1898 : decode cL_law 1898 = .ok (.istore 6, 2) := by decide +kernel
theorem dL_law_1900 : decode cL_law 1900 = .ok (.aload_n 2, 1) := by decide +kernel
theorem dL_law_1901 : decode cL_law 1901 = .ok (.aload_n 0, 1) := by decide +kernel
theorem dL_law_1902 : decode cL_law 1902 = .ok (.iload 5, 2) := by decide +kernel
theorem dL_law_1904 : decode cL_law 1904 = .ok (.iconst 1, 1) := by decide +kernel
theorem dL_law_1905 : decode cL_law 1905 = .ok (.iadd, 1) := by decide +kernel
theorem dL_law_1906 : decode cL_law 1906 = .ok (.iaload, 1) := by decide +kernel
theorem dL_law_1907 : decode cL_law 1907 = .ok (.aload_n 0, 1) := by decide +kernel
theorem dL_law_1908 : decode cL_law 1908 = .ok (.iload 5, 2) := by decide +kernel
theorem dL_law_1910 : decode cL_law 1910 = .ok (.iconst 2, 1) := by decide +kernel
theorem dL_law_1911 : decode cL_law 1911 = .ok (.iadd, 1) := by decide +kernel
theorem dL_law_1912 : decode cL_law 1912 = .ok (.iaload, 1) := by decide +kernel
theorem dL_law_1913 : decode cL_law 1913 = .ok (.invokevirtual 223, 3) := by decide +kernel
theorem dL_law_1916 : decode cL_law 1916 = .ok (.istore 7, 2) := by decide +kernel
theorem dL_law_1918 : decode cL_law 1918 = .ok (.aload_n 2, 1) := by decide +kernel
theorem dL_law_1919 : decode cL_law 1919 = .ok (.invokevirtual 130, 3) := by decide +kernel
theorem dL_law_1922 : decode cL_law 1922 = .ok (.iload 6, 2) := by decide +kernel
theorem dL_law_1924 : decode cL_law 1924 = .ok (.if_icmp .eq 5, 3) := by decide +kernel
theorem dL_law_1927 : decode cL_law 1927 = .ok (.iconst 0, 1) := by decide +kernel
theorem dL_law_1928 : decode cL_law 1928 = .ok (.ireturn, 1) := by decide +kernel
theorem dL_law_1929 : decode cL_law 1929 = .ok (.iload 6, 2) := by decide +kernel
theorem dL_law_1931 : decode cL_law 1931 = .ok (.ifCond .ne 15, 3) := by decide +kernel
theorem dL_law_1934 : decode cL_law 1934 = .ok (.aload_n 3, 1) := by decide +kernel
theorem dL_law_1935 : decode cL_law 1935 = .ok (.iconst 0, 1) := by decide +kernel
theorem dL_law_1936 : decode cL_law 1936 = .ok (.laload, 1) := by decide +kernel
theorem dL_law_1937 : decode cL_law 1937 = .ok (.iload 7, 2) := by decide +kernel
theorem dL_law_1939 : decode cL_law 1939 = .ok (.i2l, 1) := by decide +kernel
theorem dL_law_1940 : decode cL_law 1940 = .ok (.lcmp, 1) := by decide +kernel
theorem dL_law_1941 : decode cL_law 1941 = .ok (.ifCond .eq 5, 3) := by decide +kernel
theorem dL_law_1944 : decode cL_law 1944 = .ok (.iconst 0, 1) := by decide +kernel
theorem dL_law_1945 : decode cL_law 1945 = .ok (.ireturn, 1) := by decide +kernel
theorem dL_law_1946 : decode cL_law 1946 = .ok (.goto 299, 3) := by decide +kernel
theorem dL_law_1949 : decode cL_law 1949 = .ok (.aload_n 1, 1) := by decide +kernel
theorem dL_law_1950 : decode cL_law 1950 = .ok (.aload_n 0, 1) := by decide +kernel
theorem dL_law_1951 : decode cL_law 1951 = .ok (.iload 5, 2) := by decide +kernel
theorem dL_law_1953 : decode cL_law 1953 = .ok (.iconst 1, 1) := by decide +kernel
theorem dL_law_1954 : decode cL_law 1954 = .ok (.iadd, 1) := by decide +kernel
theorem dL_law_1955 : decode cL_law 1955 = .ok (.iaload, 1) := by decide +kernel
theorem dL_law_1956 : decode cL_law 1956 = .ok (.aload_n 0, 1) := by decide +kernel
theorem dL_law_1957 : decode cL_law 1957 = .ok (.iload 5, 2) := by decide +kernel
theorem dL_law_1959 : decode cL_law 1959 = .ok (.iconst 2, 1) := by decide +kernel
theorem dL_law_1960 : decode cL_law 1960 = .ok (.iadd, 1) := by decide +kernel
theorem dL_law_1961 : decode cL_law 1961 = .ok (.iaload, 1) := by decide +kernel
theorem dL_law_1962 : decode cL_law 1962 = .ok (.aload_n 3, 1) := by decide +kernel
theorem dL_law_1963 : decode cL_law 1963 = .ok (.invokestatic 224, 3) := by decide +kernel
theorem dL_law_1966 : decode cL_law 1966 = .ok (.istore 6, 2) := by decide +kernel
theorem dL_law_1968 : decode cL_law 1968 = .ok (.aload_n 2, 1) := by decide +kernel
theorem dL_law_1969 : decode cL_law 1969 = .ok (.aload_n 0, 1) := by decide +kernel
theorem dL_law_1970 : decode cL_law 1970 = .ok (.iload 5, 2) := by decide +kernel
theorem dL_law_1972 : decode cL_law 1972 = .ok (.iconst 1, 1) := by decide +kernel
theorem dL_law_1973 : decode cL_law 1973 = .ok (.iadd, 1) := by decide +kernel
theorem dL_law_1974 : decode cL_law 1974 = .ok (.iaload, 1) := by decide +kernel
theorem dL_law_1975 : decode cL_law 1975 = .ok (.aload_n 0, 1) := by decide +kernel
theorem dL_law_1976 : decode cL_law 1976 = .ok (.iload 5, 2) := by decide +kernel
theorem dL_law_1978 : decode cL_law 1978 = .ok (.iconst 2, 1) := by decide +kernel
theorem dL_law_1979 : decode cL_law 1979 = .ok (.iadd, 1) := by decide +kernel
theorem dL_law_1980 : decode cL_law 1980 = .ok (.iaload, 1) := by decide +kernel
theorem dL_law_1981 : decode cL_law 1981 = .ok (.invokevirtual 226, 3) := by decide +kernel
theorem dL_law_1984 : decode cL_law 1984 = .ok (.istore 7, 2) := by decide +kernel
theorem dL_law_1986 : decode cL_law 1986 = .ok (.aload_n 2, 1) := by decide +kernel
theorem dL_law_1987 : decode cL_law 1987 = .ok (.invokevirtual 130, 3) := by decide +kernel
theorem dL_law_1990 : decode cL_law 1990 = .ok (.iload 6, 2) := by decide +kernel
theorem dL_law_1992 : decode cL_law 1992 = .ok (.if_icmp .eq 5, 3) := by decide +kernel
theorem dL_law_1995 : decode cL_law 1995 = .ok (.iconst 0, 1) := by decide +kernel
theorem dL_law_1996 : decode cL_law 1996 = .ok (.ireturn, 1) := by decide +kernel
theorem dL_law_1997 : decode cL_law 1997 = .ok (.iload 6, 2) := by decide +kernel
theorem dL_law_1999 : decode cL_law 1999 = .ok (.ifCond .ne 15, 3) := by decide +kernel
theorem dL_law_2002 : decode cL_law 2002 = .ok (.aload_n 3, 1) := by decide +kernel
theorem dL_law_2003 : decode cL_law 2003 = .ok (.iconst 0, 1) := by decide +kernel
theorem dL_law_2004 : decode cL_law 2004 = .ok (.laload, 1) := by decide +kernel
theorem dL_law_2005 : decode cL_law 2005 = .ok (.iload 7, 2) := by decide +kernel
theorem dL_law_2007 : decode cL_law 2007 = .ok (.i2l, 1) := by decide +kernel
theorem dL_law_2008 : decode cL_law 2008 = .ok (.lcmp, 1) := by decide +kernel
theorem dL_law_2009 : decode cL_law 2009 = .ok (.ifCond .eq 5, 3) := by decide +kernel
theorem dL_law_2012 : decode cL_law 2012 = .ok (.iconst 0, 1) := by decide +kernel
theorem dL_law_2013 : decode cL_law 2013 = .ok (.ireturn, 1) := by decide +kernel
theorem dL_law_2014 : decode cL_law 2014 = .ok (.goto 231, 3) := by decide +kernel
theorem dL_law_2017 : decode cL_law 2017 = .ok (.aload_n 1, 1) := by decide +kernel
theorem dL_law_2018 : decode cL_law 2018 = .ok (.invokevirtual 227, 3) := by decide +kernel
theorem dL_law_2021 : decode cL_law 2021 = .ok (.aload_n 2, 1) := by decide +kernel
theorem dL_law_2022 : decode cL_law 2022 = .ok (.invokevirtual 230, 3) := by decide +kernel
theorem dL_law_2025 : decode cL_law 2025 = .ok (.lcmp, 1) := by decide +kernel
theorem dL_law_2026 : decode cL_law 2026 = .ok (.ifCond .eq 219, 3) := by decide +kernel
theorem dL_law_2029 : decode cL_law 2029 = .ok (.iconst 0, 1) := by decide +kernel
theorem dL_law_2030 : decode cL_law 2030 = .ok (.ireturn, 1) := by decide +kernel
theorem dL_law_2031 : decode cL_law 2031 = .ok (.aload_n 1, 1) := by decide +kernel
theorem dL_law_2032 : decode cL_law 2032 = .ok (.invokevirtual 231, 3) := by decide +kernel
theorem dL_law_2035 : decode cL_law 2035 = .ok (.aload_n 2, 1) := by decide +kernel
theorem dL_law_2036 : decode cL_law 2036 = .ok (.invokevirtual 234, 3) := by decide +kernel
theorem dL_law_2039 : decode cL_law 2039 = .ok (.lcmp, 1) := by decide +kernel
theorem dL_law_2040 : decode cL_law 2040 = .ok (.ifCond .eq 205, 3) := by decide +kernel
theorem dL_law_2043 : decode cL_law 2043 = .ok (.iconst 0, 1) := by decide +kernel
theorem dL_law_2044 : decode cL_law 2044 = .ok (.ireturn, 1) := by decide +kernel
theorem dL_law_2045 : decode cL_law 2045 = .ok (.aload_n 1, 1) := by decide +kernel
theorem dL_law_2046 : decode cL_law 2046 = .ok (.invokevirtual 235, 3) := by decide +kernel
theorem dL_law_2049 : decode cL_law 2049 = .ok (.aload_n 2, 1) := by decide +kernel
theorem dL_law_2050 : decode cL_law 2050 = .ok (.invokevirtual 238, 3) := by decide +kernel
theorem dL_law_2053 : decode cL_law 2053 = .ok (.if_icmp .eq 192, 3) := by decide +kernel
theorem dL_law_2056 : decode cL_law 2056 = .ok (.iconst 0, 1) := by decide +kernel
theorem dL_law_2057 : decode cL_law 2057 = .ok (.ireturn, 1) := by decide +kernel
theorem dL_law_2058 : decode cL_law 2058 = .ok (.aload_n 1, 1) := by decide +kernel
theorem dL_law_2059 : decode cL_law 2059 = .ok (.aload 4, 2) := by decide +kernel
theorem dL_law_2061 : decode cL_law 2061 = .ok (.invokestatic 239, 3) := by decide +kernel
theorem dL_law_2064 : decode cL_law 2064 = .ok (.istore 6, 2) := by decide +kernel
theorem dL_law_2066 : decode cL_law 2066 = .ok (.aload_n 2, 1) := by decide +kernel
theorem dL_law_2067 : decode cL_law 2067 = .ok (.invokevirtual 242, 3) := by decide +kernel
theorem dL_law_2070 : decode cL_law 2070 = .ok (.fstore 7, 2) := by decide +kernel
theorem dL_law_2072 : decode cL_law 2072 = .ok (.aload_n 2, 1) := by decide +kernel
theorem dL_law_2073 : decode cL_law 2073 = .ok (.invokevirtual 130, 3) := by decide +kernel
theorem dL_law_2076 : decode cL_law 2076 = .ok (.iload 6, 2) := by decide +kernel
theorem dL_law_2078 : decode cL_law 2078 = .ok (.if_icmp .eq 5, 3) := by decide +kernel
theorem dL_law_2081 : decode cL_law 2081 = .ok (.iconst 0, 1) := by decide +kernel
theorem dL_law_2082 : decode cL_law 2082 = .ok (.ireturn, 1) := by decide +kernel
theorem dL_law_2083 : decode cL_law 2083 = .ok (.iload 6, 2) := by decide +kernel
theorem dL_law_2085 : decode cL_law 2085 = .ok (.ifCond .ne 36, 3) := by decide +kernel
theorem dL_law_2088 : decode cL_law 2088 = .ok (.aload 4, 2) := by decide +kernel
theorem dL_law_2090 : decode cL_law 2090 = .ok (.iconst 0, 1) := by decide +kernel
theorem dL_law_2091 : decode cL_law 2091 = .ok (.daload, 1) := by decide +kernel
theorem dL_law_2092 : decode cL_law 2092 = .ok (.fload 7, 2) := by decide +kernel
theorem dL_law_2094 : decode cL_law 2094 = .ok (.f2d, 1) := by decide +kernel
theorem dL_law_2095 : decode cL_law 2095 = .ok (.dcmp .l, 1) := by decide +kernel
theorem dL_law_2096 : decode cL_law 2096 = .ok (.ifCond .eq 25, 3) := by decide +kernel
theorem dL_law_2099 : decode cL_law 2099 = .ok (.aload 4, 2) := by decide +kernel
theorem dL_law_2101 : decode cL_law 2101 = .ok (.iconst 0, 1) := by decide +kernel
theorem dL_law_2102 : decode cL_law 2102 = .ok (.daload, 1) := by decide +kernel
theorem dL_law_2103 : decode cL_law 2103 = .ok (.aload 4, 2) := by decide +kernel
theorem dL_law_2105 : decode cL_law 2105 = .ok (.iconst 0, 1) := by decide +kernel
theorem dL_law_2106 : decode cL_law 2106 = .ok (.daload, 1) := by decide +kernel
theorem dL_law_2107 : decode cL_law 2107 = .ok (.dcmp .l, 1) := by decide +kernel
theorem dL_law_2108 : decode cL_law 2108 = .ok (.ifCond .eq 11, 3) := by decide +kernel
theorem dL_law_2111 : decode cL_law 2111 = .ok (.fload 7, 2) := by decide +kernel
theorem dL_law_2113 : decode cL_law 2113 = .ok (.fload 7, 2) := by decide +kernel
theorem dL_law_2115 : decode cL_law 2115 = .ok (.fcmp .l, 1) := by decide +kernel
theorem dL_law_2116 : decode cL_law 2116 = .ok (.ifCond .ne 5, 3) := by decide +kernel
theorem dL_law_2119 : decode cL_law 2119 = .ok (.iconst 0, 1) := by decide +kernel
theorem dL_law_2120 : decode cL_law 2120 = .ok (.ireturn, 1) := by decide +kernel
theorem dL_law_2121 : decode cL_law 2121 = .ok (.goto 124, 3) := by decide +kernel
theorem dL_law_2124 : decode cL_law 2124 = .ok (.aload_n 1, 1) := by decide +kernel
theorem dL_law_2125 : decode cL_law 2125 = .ok (.aload 4, 2) := by decide +kernel
theorem dL_law_2127 : decode cL_law 2127 = .ok (.invokestatic 243, 3) := by decide +kernel
theorem dL_law_2130 : decode cL_law 2130 = .ok (.istore 6, 2) := by decide +kernel
theorem dL_law_2132 : decode cL_law 2132 = .ok (.aload_n 2, 1) := by decide +kernel
theorem dL_law_2133 : decode cL_law 2133 = .ok (.invokevirtual 245, 3) := by decide +kernel
theorem dL_law_2136 : decode cL_law 2136 = .ok (.dstore 7, 2) := by decide +kernel
theorem dL_law_2138 : decode cL_law 2138 = .ok (.aload_n 2, 1) := by decide +kernel
theorem dL_law_2139 : decode cL_law 2139 = .ok (.invokevirtual 130, 3) := by decide +kernel
theorem dL_law_2142 : decode cL_law 2142 = .ok (.iload 6, 2) := by decide +kernel
theorem dL_law_2144 : decode cL_law 2144 = .ok (.if_icmp .eq 5, 3) := by decide +kernel
theorem dL_law_2147 : decode cL_law 2147 = .ok (.iconst 0, 1) := by decide +kernel
theorem dL_law_2148 : decode cL_law 2148 = .ok (.ireturn, 1) := by decide +kernel
theorem dL_law_2149 : decode cL_law 2149 = .ok (.iload 6, 2) := by decide +kernel
theorem dL_law_2151 : decode cL_law 2151 = .ok (.ifCond .ne 35, 3) := by decide +kernel
theorem dL_law_2154 : decode cL_law 2154 = .ok (.aload 4, 2) := by decide +kernel
theorem dL_law_2156 : decode cL_law 2156 = .ok (.iconst 0, 1) := by decide +kernel
theorem dL_law_2157 : decode cL_law 2157 = .ok (.daload, 1) := by decide +kernel
theorem dL_law_2158 : decode cL_law 2158 = .ok (.dload 7, 2) := by decide +kernel
theorem dL_law_2160 : decode cL_law 2160 = .ok (.dcmp .l, 1) := by decide +kernel
theorem dL_law_2161 : decode cL_law 2161 = .ok (.ifCond .eq 25, 3) := by decide +kernel
theorem dL_law_2164 : decode cL_law 2164 = .ok (.aload 4, 2) := by decide +kernel
theorem dL_law_2166 : decode cL_law 2166 = .ok (.iconst 0, 1) := by decide +kernel
theorem dL_law_2167 : decode cL_law 2167 = .ok (.daload, 1) := by decide +kernel
theorem dL_law_2168 : decode cL_law 2168 = .ok (.aload 4, 2) := by decide +kernel
theorem dL_law_2170 : decode cL_law 2170 = .ok (.iconst 0, 1) := by decide +kernel
theorem dL_law_2171 : decode cL_law 2171 = .ok (.daload, 1) := by decide +kernel
theorem dL_law_2172 : decode cL_law 2172 = .ok (.dcmp .l, 1) := by decide +kernel
theorem dL_law_2173 : decode cL_law 2173 = .ok (.ifCond .eq 11, 3) := by decide +kernel
theorem dL_law_2176 : decode cL_law 2176 = .ok (.dload 7, 2) := by decide +kernel
theorem dL_law_2178 : decode cL_law 2178 = .ok (.dload 7, 2) := by decide +kernel
theorem dL_law_2180 : decode cL_law 2180 = .ok (.dcmp .l, 1) := by decide +kernel
theorem dL_law_2181 : decode cL_law 2181 = .ok (.ifCond .ne 5, 3) := by decide +kernel
theorem dL_law_2184 : decode cL_law 2184 = .ok (.iconst 0, 1) := by decide +kernel
theorem dL_law_2185 : decode cL_law 2185 = .ok (.ireturn, 1) := by decide +kernel
theorem dL_law_2186 : decode cL_law 2186 = .ok (.goto 59, 3) := by decide +kernel
theorem dL_law_2189 : decode cL_law 2189 = .ok (.aload_n 1, 1) := by decide +kernel
theorem dL_law_2190 : decode cL_law 2190 = .ok (.aload_n 3, 1) := by decide +kernel
theorem dL_law_2191 : decode cL_law 2191 = .ok (.invokestatic 246, 3) := by decide +kernel
theorem dL_law_2194 : decode cL_law 2194 = .ok (.istore 6, 2) := by decide +kernel
theorem dL_law_2196 : decode cL_law 2196 = .ok (.aload_n 2, 1) := by decide +kernel
theorem dL_law_2197 : decode cL_law 2197 = .ok (.invokevirtual 248, 3) := by decide +kernel
theorem dL_law_2200 : decode cL_law 2200 = .ok (.lstore 7, 2) := by decide +kernel
theorem dL_law_2202 : decode cL_law 2202 = .ok (.aload_n 2, 1) := by decide +kernel
theorem dL_law_2203 : decode cL_law 2203 = .ok (.invokevirtual 130, 3) := by decide +kernel
theorem dL_law_2206 : decode cL_law 2206 = .ok (.iload 6, 2) := by decide +kernel
theorem dL_law_2208 : decode cL_law 2208 = .ok (.if_icmp .eq 5, 3) := by decide +kernel
theorem dL_law_2211 : decode cL_law 2211 = .ok (.iconst 0, 1) := by decide +kernel
theorem dL_law_2212 : decode cL_law 2212 = .ok (.ireturn, 1) := by decide +kernel
theorem dL_law_2213 : decode cL_law 2213 = .ok (.iload 6, 2) := by decide +kernel
theorem dL_law_2215 : decode cL_law 2215 = .ok (.ifCond .ne 14, 3) := by decide +kernel
theorem dL_law_2218 : decode cL_law 2218 = .ok (.aload_n 3, 1) := by decide +kernel
theorem dL_law_2219 : decode cL_law 2219 = .ok (.iconst 0, 1) := by decide +kernel
theorem dL_law_2220 : decode cL_law 2220 = .ok (.laload, 1) := by decide +kernel
theorem dL_law_2221 : decode cL_law 2221 = .ok (.lload 7, 2) := by decide +kernel
theorem dL_law_2223 : decode cL_law 2223 = .ok (.lcmp, 1) := by decide +kernel
theorem dL_law_2224 : decode cL_law 2224 = .ok (.ifCond .eq 5, 3) := by decide +kernel
theorem dL_law_2227 : decode cL_law 2227 = .ok (.iconst 0, 1) := by decide +kernel
theorem dL_law_2228 : decode cL_law 2228 = .ok (.ireturn, 1) := by decide +kernel
theorem dL_law_2229 : decode cL_law 2229 = .ok (.goto 16, 3) := by decide +kernel
theorem dL_law_2232 : decode cL_law 2232 = .ok (.aload_n 1, 1) := by decide +kernel
theorem dL_law_2233 : decode cL_law 2233 = .ok (.invokevirtual 249, 3) := by decide +kernel
theorem dL_law_2236 : decode cL_law 2236 = .ok (.aload_n 2, 1) := by decide +kernel
theorem dL_law_2237 : decode cL_law 2237 = .ok (.invokevirtual 253, 3) := by decide +kernel
theorem dL_law_2240 : decode cL_law 2240 = .ok (.if_icmp .eq 5, 3) := by decide +kernel
theorem dL_law_2243 : decode cL_law 2243 = .ok (.iconst 0, 1) := by decide +kernel
theorem dL_law_2244 : decode cL_law 2244 = .ok (.ireturn, 1) := by decide +kernel
theorem dL_law_2245 : decode cL_law 2245 = .ok (.iinc 5 6, 3) := by decide +kernel
theorem dL_law_2248 : decode cL_law 2248 = .ok (.goto (-2220), 3) := by decide +kernel
theorem dL_law_2251 : decode cL_law 2251 = .ok (.iconst 1, 1) := by decide +kernel
theorem dL_law_2252 : decode cL_law 2252 = .ok (.ireturn, 1) := by decide +kernel
