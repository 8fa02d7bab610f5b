theorem dX0_init_0 : decode cX0_init 0 = .ok (.aload_n 0, 1) := by decide +kernel
theorem dX0_init_1 : decode cX0_init 1 = .ok (.invokespecial 3, 3) := by decide +kernel
theorem dX0_init_4 : decode cX0_init 4 = .ok (.aload_n 0, 1) := by decide +kernel
theorem dX0_init_5 : decode cX0_init 5 = .ok (.iconst 4, 1) := by decide +kernel
theorem dX0_init_6 : decode cX0_init 6 = .ok (.newarray .int, 2) := by decide +kernel
theorem dX0_init_8 : decode cX0_init 8 = .ok (.putfield 9, 3) := by decide +kernel
theorem dX0_init_11 : decode cX0_init 11 = .ok (.aload_n 0, 1) := by decide +kernel
theorem dX0_init_12 : decode cX0_init 12 = .ok (.iconst 4, 1) := by decide +kernel
theorem dX0_init_13 : decode cX0_init 13 = .ok (.newarray .int, 2) := by decide +kernel
theorem dX0_init_15 : decode cX0_init 15 = .ok (.putfield 15, 3) := by decide +kernel
theorem dX0_init_18 : decode cX0_init 18 = .ok (.aload_n 0, 1) := by decide +kernel
theorem dX0_init_19 : decode cX0_init 19 = .ok (.bipush 76, 2) := by decide +kernel
theorem dX0_init_21 : decode cX0_init 21 = .ok (.newarray .int, 2) := by decide +kernel
theorem dX0_init_23 : decode cX0_init 23 = .ok (.putfield 18, 3) := by decide +kernel
theorem dX0_init_26 : decode cX0_init 26 = .ok (.aload_n 0, 1) := by decide +kernel
theorem dX0_init_27 : decode cX0_init 27 = .ok (.iload_n 1, 1) := by decide +kernel
theorem dX0_init_28 : decode cX0_init 28 = .ok (.putfield 21, 3) := by decide +kernel
theorem dX0_init_31 : decode cX0_init 31 = .ok (.aload_n 0, 1) := by decide +kernel
theorem dX0_init_32 : decode cX0_init 32 = .ok (.getfield 9, 3) := by decide +kernel
theorem dX0_init_35 : decode cX0_init 35 = .ok (.iconst 0, 1) := by decide +kernel
theorem dX0_init_36 : decode cX0_init 36 = .ok (.iload_n 2, 1) := by decide +kernel
theorem dX0_init_37 : decode cX0_init 37 = .ok (.iastore, 1) := by decide +kernel
theorem dX0_init_38 : decode cX0_init 38 = .ok (.aload_n 0, 1) := by decide +kernel
theorem dX0_init_39 : decode cX0_init 39 = .ok (.getfield 9, 3) := by decide +kernel
theorem dX0_init_42 : decode cX0_init 42 = .ok (.iconst 1, 1) := by decide +kernel
theorem dX0_init_43 : decode cX0_init 43 = .ok (.iload_n 3, 1) := by decide +kernel
theorem dX0_init_44 : decode cX0_init 44 = .ok (.iastore, 1) := by decide +kernel
theorem dX0_init_45 : decode cX0_init 45 = .ok (.aload_n 0, 1) := by decide +kernel
theorem dX0_init_46 : decode cX0_init 46 = .ok (.getfield 9, 3) := by decide +kernel
theorem dX0_init_49 : decode cX0_init 49 = .ok (.iconst 2, 1) := by decide +kernel
theorem dX0_init_50 : decode cX0_init 50 = .ok (.iload 4, 2) := by decide +kernel
theorem dX0_init_52 : decode cX0_init 52 = .ok (.iastore, 1) := by decide +kernel
theorem dX0_init_53 : decode cX0_init 53 = .ok (.aload_n 0, 1) := by decide +kernel
theorem dX0_init_54 : decode cX0_init 54 = .ok (.getfield 9, 3) := by decide +kernel
theorem dX0_init_57 : decode cX0_init 57 = .ok (.iconst 3, 1) := by decide +kernel
theorem dX0_init_58 : decode cX0_init 58 = .ok (.iload 5, 2) := by decide +kernel
theorem dX0_init_60 : decode cX0_init 60 = .ok (.iastore, 1) := by decide +kernel
theorem dX0_init_61 : decode cX0_init 61 = .ok (.aload_n 0, 1) := by decide +kernel
theorem dX0_init_62 : decode cX0_init 62 = .ok (.getfield 9, 3) := by decide +kernel
theorem dX0_init_65 : decode cX0_init 65 = .ok (.iconst 0, 1) := by decide +kernel
theorem dX0_init_66 : decode cX0_init 66 = .ok (.aload_n 0, 1) := by decide +kernel
theorem dX0_init_67 : decode cX0_init 67 = .ok (.getfield 15, 3) := by decide +kernel
theorem dX0_init_70 : decode cX0_init 70 = .ok (.iconst 0, 1) := by decide +kernel
theorem dX0_init_71 : decode cX0_init 71 = .ok (.iconst 4, 1) := by decide +kernel
theorem dX0_init_72 : decode cX0_init 72 = .ok (.invokestatic 25, 3) := by decide +kernel
theorem dX0_init_75 : decode cX0_init 75 = .ok (.return_, 1) := by decide +kernel
theorem dX0_changeQuota_0 : decode cX0_changeQuota 0 = .ok (.aload_n 0, 1) := by decide +kernel
theorem dX0_changeQuota_1 : decode cX0_changeQuota 1 = .ok (.getfield 9, 3) := by decide +kernel
theorem dX0_changeQuota_4 : decode cX0_changeQuota 4 = .ok (.iload_n 1, 1) := by decide +kernel
theorem dX0_changeQuota_5 : decode cX0_changeQuota 5 = .ok (.dup2, 1) := by decide +kernel
theorem dX0_changeQuota_6 : decode cX0_changeQuota 6 = .ok (.iaload, 1) := by decide +kernel
theorem dX0_changeQuota_7 : decode cX0_changeQuota 7 = .ok (.iload_n 2, 1) := by decide +kernel
theorem dX0_changeQuota_8 : decode cX0_changeQuota 8 = .ok (.iadd, 1) := by decide +kernel
theorem dX0_changeQuota_9 : decode cX0_changeQuota 9 = .ok (.iastore, 1) := by decide +kernel
theorem dX0_changeQuota_10 : decode cX0_changeQuota 10 = .ok (.aload_n 0, 1) := by decide +kernel
theorem dX0_changeQuota_11 : decode cX0_changeQuota 11 = .ok (.getfield 15, 3) := by decide +kernel
theorem dX0_changeQuota_14 : decode cX0_changeQuota 14 = .ok (.iload_n 1, 1) := by decide +kernel
theorem dX0_changeQuota_15 : decode cX0_changeQuota 15 = .ok (.dup2, 1) := by decide +kernel
theorem dX0_changeQuota_16 : decode cX0_changeQuota 16 = .ok (.iaload, 1) := by decide +kernel
theorem dX0_changeQuota_17 : decode cX0_changeQuota 17 = .ok (.iload_n 2, 1) := by decide +kernel
theorem dX0_changeQuota_18 : decode cX0_changeQuota 18 = .ok (.iadd, 1) := by decide +kernel
theorem dX0_changeQuota_19 : decode cX0_changeQuota 19 = .ok (.iastore, 1) := by decide +kernel
theorem dX0_changeQuota_20 : decode cX0_changeQuota 20 = .ok (.return_, 1) := by decide +kernel
theorem dX0_writeDown_0 : decode cX0_writeDown 0 = .ok (.aload_n 0, 1) := by decide +kernel
theorem dX0_writeDown_1 : decode cX0_writeDown 1 = .ok (.getfield 9, 3) := by decide +kernel
theorem dX0_writeDown_4 : decode cX0_writeDown 4 = .ok (.iconst 0, 1) := by decide +kernel
theorem dX0_writeDown_5 : decode cX0_writeDown 5 = .ok (.aload_n 0, 1) := by decide +kernel
theorem dX0_writeDown_6 : decode cX0_writeDown 6 = .ok (.getfield 18, 3) := by decide +kernel
theorem dX0_writeDown_9 : decode cX0_writeDown 9 = .ok (.iload_n 1, 1) := by decide +kernel
theorem dX0_writeDown_10 : decode cX0_writeDown 10 = .ok (.iconst 4, 1) := by decide +kernel
theorem dX0_writeDown_11 : decode cX0_writeDown 11 = .ok (.imul, 1) := by decide +kernel
theorem dX0_writeDown_12 : decode cX0_writeDown 12 = .ok (.iconst 4, 1) := by decide +kernel
theorem dX0_writeDown_13 : decode cX0_writeDown 13 = .ok (.invokestatic 25, 3) := by decide +kernel
theorem dX0_writeDown_16 : decode cX0_writeDown 16 = .ok (.return_, 1) := by decide +kernel
theorem dX0_leftAtEnd_0 : decode cX0_leftAtEnd 0 = .ok (.aload_n 0, 1) := by decide +kernel
theorem dX0_leftAtEnd_1 : decode cX0_leftAtEnd 1 = .ok (.getfield 18, 3) := by decide +kernel
theorem dX0_leftAtEnd_4 : decode cX0_leftAtEnd 4 = .ok (.iload_n 1, 1) := by decide +kernel
theorem dX0_leftAtEnd_5 : decode cX0_leftAtEnd 5 = .ok (.iconst 4, 1) := by decide +kernel
theorem dX0_leftAtEnd_6 : decode cX0_leftAtEnd 6 = .ok (.imul, 1) := by decide +kernel
theorem dX0_leftAtEnd_7 : decode cX0_leftAtEnd 7 = .ok (.iload_n 2, 1) := by decide +kernel
theorem dX0_leftAtEnd_8 : decode cX0_leftAtEnd 8 = .ok (.iadd, 1) := by decide +kernel
theorem dX0_leftAtEnd_9 : decode cX0_leftAtEnd 9 = .ok (.iaload, 1) := by decide +kernel
theorem dX0_leftAtEnd_10 : decode cX0_leftAtEnd 10 = .ok (.ireturn, 1) := by decide +kernel
theorem dX1_init_0 : decode cX1_init 0 = .ok (.aload_n 0, 1) := by decide +kernel
theorem dX1_init_1 : decode cX1_init 1 = .ok (.invokespecial 3, 3) := by decide +kernel
theorem dX1_init_4 : decode cX1_init 4 = .ok (.aload_n 0, 1) := by decide +kernel
theorem dX1_init_5 : decode cX1_init 5 = .ok (.iconst 4, 1) := by decide +kernel
theorem dX1_init_6 : decode cX1_init 6 = .ok (.newarray .int, 2) := by decide +kernel
theorem dX1_init_8 : decode cX1_init 8 = .ok (.putfield 9, 3) := by decide +kernel
theorem dX1_init_11 : decode cX1_init 11 = .ok (.aload_n 0, 1) := by decide +kernel
theorem dX1_init_12 : decode cX1_init 12 = .ok (.iload_n 1, 1) := by decide +kernel
theorem dX1_init_13 : decode cX1_init 13 = .ok (.putfield 15, 3) := by decide +kernel
theorem dX1_init_16 : decode cX1_init 16 = .ok (.aload_n 0, 1) := by decide +kernel
theorem dX1_init_17 : decode cX1_init 17 = .ok (.iload_n 2, 1) := by decide +kernel
theorem dX1_init_18 : decode cX1_init 18 = .ok (.putfield 19, 3) := by decide +kernel
theorem dX1_init_21 : decode cX1_init 21 = .ok (.return_, 1) := by decide +kernel
theorem dX1_offerFor_0 : decode cX1_offerFor 0 = .ok (.bipush 100, 2) := by decide +kernel
theorem dX1_offerFor_2 : decode cX1_offerFor 2 = .ok (.bipush 10, 2) := by decide +kernel
theorem dX1_offerFor_4 : decode cX1_offerFor 4 = .ok (.aload_n 1, 1) := by decide +kernel
theorem dX1_offerFor_5 : decode cX1_offerFor 5 = .ok (.getfield 22, 3) := by decide +kernel
theorem dX1_offerFor_8 : decode cX1_offerFor 8 = .ok (.imul, 1) := by decide +kernel
theorem dX1_offerFor_9 : decode cX1_offerFor 9 = .ok (.iadd, 1) := by decide +kernel
theorem dX1_offerFor_10 : decode cX1_offerFor 10 = .ok (.istore_n 2, 1) := by decide +kernel
theorem dX1_offerFor_11 : decode cX1_offerFor 11 = .ok (.aload_n 0, 1) := by decide +kernel
theorem dX1_offerFor_12 : decode cX1_offerFor 12 = .ok (.getfield 9, 3) := by decide +kernel
theorem dX1_offerFor_15 : decode cX1_offerFor 15 = .ok (.aload_n 1, 1) := by decide +kernel
theorem dX1_offerFor_16 : decode cX1_offerFor 16 = .ok (.getfield 27, 3) := by decide +kernel
theorem dX1_offerFor_19 : decode cX1_offerFor 19 = .ok (.iaload, 1) := by decide +kernel
theorem dX1_offerFor_20 : decode cX1_offerFor 20 = .ok (.iload_n 2, 1) := by decide +kernel
theorem dX1_offerFor_21 : decode cX1_offerFor 21 = .ok (.imul, 1) := by decide +kernel
theorem dX1_offerFor_22 : decode cX1_offerFor 22 = .ok (.i2d, 1) := by decide +kernel
theorem dX1_offerFor_23 : decode cX1_offerFor 23 = .ok (.ldc2_w 30, 3) := by decide +kernel
theorem dX1_offerFor_26 : decode cX1_offerFor 26 = .ok (.ddiv, 1) := by decide +kernel
theorem dX1_offerFor_27 : decode cX1_offerFor 27 = .ok (.aload_n 1, 1) := by decide +kernel
theorem dX1_offerFor_28 : decode cX1_offerFor 28 = .ok (.getfield 32, 3) := by decide +kernel
theorem dX1_offerFor_31 : decode cX1_offerFor 31 = .ok (.f2d, 1) := by decide +kernel
theorem dX1_offerFor_32 : decode cX1_offerFor 32 = .ok (.dmul, 1) := by decide +kernel
theorem dX1_offerFor_33 : decode cX1_offerFor 33 = .ok (.ldc2_w 30, 3) := by decide +kernel
theorem dX1_offerFor_36 : decode cX1_offerFor 36 = .ok (.ddiv, 1) := by decide +kernel
theorem dX1_offerFor_37 : decode cX1_offerFor 37 = .ok (.d2i, 1) := by decide +kernel
theorem dX1_offerFor_38 : decode cX1_offerFor 38 = .ok (.ireturn, 1) := by decide +kernel
theorem dX1_mostFor_0 : decode cX1_mostFor 0 = .ok (.aload_n 1, 1) := by decide +kernel
theorem dX1_mostFor_1 : decode cX1_mostFor 1 = .ok (.getfield 36, 3) := by decide +kernel
theorem dX1_mostFor_4 : decode cX1_mostFor 4 = .ok (.iconst 1, 1) := by decide +kernel
theorem dX1_mostFor_5 : decode cX1_mostFor 5 = .ok (.if_icmp .ge 5, 3) := by decide +kernel
theorem dX1_mostFor_8 : decode cX1_mostFor 8 = .ok (.iconst (-1), 1) := by decide +kernel
theorem dX1_mostFor_9 : decode cX1_mostFor 9 = .ok (.ireturn, 1) := by decide +kernel
theorem dX1_mostFor_10 : decode cX1_mostFor 10 = .ok (.aload_n 0, 1) := by decide +kernel
theorem dX1_mostFor_11 : decode cX1_mostFor 11 = .ok (.aload_n 1, 1) := by decide +kernel
theorem dX1_mostFor_12 : decode cX1_mostFor 12 = .ok (.invokevirtual 39, 3) := by decide +kernel
theorem dX1_mostFor_15 : decode cX1_mostFor 15 = .ok (.aload_n 0, 1) := by decide +kernel
theorem dX1_mostFor_16 : decode cX1_mostFor 16 = .ok (.getfield 19, 3) := by decide +kernel
theorem dX1_mostFor_19 : decode cX1_mostFor 19 = .ok (.aload_n 1, 1) := by decide +kernel
theorem dX1_mostFor_20 : decode cX1_mostFor 20 = .ok (.getfield 36, 3) := by decide +kernel
theorem dX1_mostFor_23 : decode cX1_mostFor 23 = .ok (.idiv, 1) := by decide +kernel
theorem dX1_mostFor_24 : decode cX1_mostFor 24 = .ok (.invokestatic 43, 3) := by decide +kernel
theorem dX1_mostFor_27 : decode cX1_mostFor 27 = .ok (.ireturn, 1) := by decide +kernel
theorem dX2_init_0 : decode cX2_init 0 = .ok (.aload_n 0, 1) := by decide +kernel
theorem dX2_init_1 : decode cX2_init 1 = .ok (.invokespecial 3, 3) := by decide +kernel
theorem dX2_init_4 : decode cX2_init 4 = .ok (.aload_n 0, 1) := by decide +kernel
theorem dX2_init_5 : decode cX2_init 5 = .ok (.bipush 102, 2) := by decide +kernel
theorem dX2_init_7 : decode cX2_init 7 = .ok (.putfield 9, 3) := by decide +kernel
theorem dX2_init_10 : decode cX2_init 10 = .ok (.aload_n 0, 1) := by decide +kernel
theorem dX2_init_11 : decode cX2_init 11 = .ok (.ldc 15, 2) := by decide +kernel
theorem dX2_init_13 : decode cX2_init 13 = .ok (.putfield 16, 3) := by decide +kernel
theorem dX2_init_16 : decode cX2_init 16 = .ok (.aload_n 0, 1) := by decide +kernel
theorem dX2_init_17 : decode cX2_init 17 = .ok (.iconst 0, 1) := by decide +kernel
theorem dX2_init_18 : decode cX2_init 18 = .ok (.putfield 20, 3) := by decide +kernel
theorem dX2_init_21 : decode cX2_init 21 = .ok (.aload_n 0, 1) := by decide +kernel
theorem dX2_init_22 : decode cX2_init 22 = .ok (.aconst_null, 1) := by decide +kernel
theorem dX2_init_23 : decode cX2_init 23 = .ok (.putfield 24, 3) := by decide +kernel
theorem dX2_init_26 : decode cX2_init 26 = .ok (.aload_n 0, 1) := by decide +kernel
theorem dX2_init_27 : decode cX2_init 27 = .ok (.iconst 0, 1) := by decide +kernel
theorem dX2_init_28 : decode cX2_init 28 = .ok (.putfield 28, 3) := by decide +kernel
theorem dX2_init_31 : decode cX2_init 31 = .ok (.aload_n 0, 1) := by decide +kernel
theorem dX2_init_32 : decode cX2_init 32 = .ok (.iload_n 1, 1) := by decide +kernel
theorem dX2_init_33 : decode cX2_init 33 = .ok (.putfield 31, 3) := by decide +kernel
theorem dX2_init_36 : decode cX2_init 36 = .ok (.aload_n 0, 1) := by decide +kernel
theorem dX2_init_37 : decode cX2_init 37 = .ok (.iload_n 2, 1) := by decide +kernel
theorem dX2_init_38 : decode cX2_init 38 = .ok (.putfield 34, 3) := by decide +kernel
theorem dX2_init_41 : decode cX2_init 41 = .ok (.aload_n 0, 1) := by decide +kernel
theorem dX2_init_42 : decode cX2_init 42 = .ok (.iload_n 3, 1) := by decide +kernel
theorem dX2_init_43 : decode cX2_init 43 = .ok (.putfield 37, 3) := by decide +kernel
theorem dX2_init_46 : decode cX2_init 46 = .ok (.aload_n 0, 1) := by decide +kernel
theorem dX2_init_47 : decode cX2_init 47 = .ok (.iload 4, 2) := by decide +kernel
theorem dX2_init_49 : decode cX2_init 49 = .ok (.putfield 40, 3) := by decide +kernel
theorem dX2_init_52 : decode cX2_init 52 = .ok (.aload_n 0, 1) := by decide +kernel
theorem dX2_init_53 : decode cX2_init 53 = .ok (.iload 5, 2) := by decide +kernel
theorem dX2_init_55 : decode cX2_init 55 = .ok (.putfield 43, 3) := by decide +kernel
theorem dX2_init_58 : decode cX2_init 58 = .ok (.aload_n 0, 1) := by decide +kernel
theorem dX2_init_59 : decode cX2_init 59 = .ok (.iload 6, 2) := by decide +kernel
theorem dX2_init_61 : decode cX2_init 61 = .ok (.putfield 46, 3) := by decide +kernel
theorem dX2_init_64 : decode cX2_init 64 = .ok (.return_, 1) := by decide +kernel
theorem dX2_isAtPier_0 : decode cX2_isAtPier 0 = .ok (.aload_n 0, 1) := by decide +kernel
theorem dX2_isAtPier_1 : decode cX2_isAtPier 1 = .ok (.getfield 9, 3) := by decide +kernel
theorem dX2_isAtPier_4 : decode cX2_isAtPier 4 = .ok (.bipush 102, 2) := by decide +kernel
theorem dX2_isAtPier_6 : decode cX2_isAtPier 6 = .ok (.if_icmp .eq 21, 3) := by decide +kernel
theorem dX2_isAtPier_9 : decode cX2_isAtPier 9 = .ok (.aload_n 0, 1) := by decide +kernel
theorem dX2_isAtPier_10 : decode cX2_isAtPier 10 = .ok (.getfield 9, 3) := by decide +kernel
theorem dX2_isAtPier_13 : decode cX2_isAtPier 13 = .ok (.bipush 115, 2) := by decide +kernel
theorem dX2_isAtPier_15 : decode cX2_isAtPier 15 = .ok (.if_icmp .eq 12, 3) := by decide +kernel
theorem dX2_isAtPier_18 : decode cX2_isAtPier 18 = .ok (.aload_n 0, 1) := by decide +kernel
theorem dX2_isAtPier_19 : decode cX2_isAtPier 19 = .ok (.getfield 9, 3) := by decide +kernel
theorem dX2_isAtPier_22 : decode cX2_isAtPier 22 = .ok (.bipush 108, 2) := by decide +kernel
theorem dX2_isAtPier_24 : decode cX2_isAtPier 24 = .ok (.if_icmp .ne 7, 3) := by decide +kernel
theorem dX2_isAtPier_27 : decode cX2_isAtPier 27 = .ok (.iconst 1, 1) := by decide +kernel
theorem dX2_isAtPier_28 : decode cX2_isAtPier 28 = .ok (.goto 4, 3) := by decide +kernel
theorem dX2_isAtPier_31 : decode cX2_isAtPier 31 = .ok (.iconst 0, 1) := by decide +kernel
theorem dX2_isAtPier_32 : decode cX2_isAtPier 32 = .ok (.ireturn, 1) := by decide +kernel
theorem dX2_wasSold_0 : decode cX2_wasSold 0 = .ok (.aload_n 0, 1) := by decide +kernel
theorem dX2_wasSold_1 : decode cX2_wasSold 1 = .ok (.getfield 9, 3) := by decide +kernel
theorem dX2_wasSold_4 : decode cX2_wasSold 4 = .ok (.bipush 115, 2) := by decide +kernel
theorem dX2_wasSold_6 : decode cX2_wasSold 6 = .ok (.if_icmp .eq 21, 3) := by decide +kernel
theorem dX2_wasSold_9 : decode cX2_wasSold 9 = .ok (.aload_n 0, 1) := by decide +kernel
theorem dX2_wasSold_10 : decode cX2_wasSold 10 = .ok (.getfield 9, 3) := by decide +kernel
theorem dX2_wasSold_13 : decode cX2_wasSold 13 = .ok (.bipush 108, 2) := by decide +kernel
theorem dX2_wasSold_15 : decode cX2_wasSold 15 = .ok (.if_icmp .eq 12, 3) := by decide +kernel
theorem dX2_wasSold_18 : decode cX2_wasSold 18 = .ok (.aload_n 0, 1) := by decide +kernel
theorem dX2_wasSold_19 : decode cX2_wasSold 19 = .ok (.getfield 9, 3) := by decide +kernel
theorem dX2_wasSold_22 : decode cX2_wasSold 22 = .ok (.bipush 100, 2) := by decide +kernel
theorem dX2_wasSold_24 : decode cX2_wasSold 24 = .ok (.if_icmp .ne 7, 3) := by decide +kernel
theorem dX2_wasSold_27 : decode cX2_wasSold 27 = .ok (.iconst 1, 1) := by decide +kernel
theorem dX2_wasSold_28 : decode cX2_wasSold 28 = .ok (.goto 4, 3) := by decide +kernel
theorem dX2_wasSold_31 : decode cX2_wasSold 31 = .ok (.iconst 0, 1) := by decide +kernel
theorem dX2_wasSold_32 : decode cX2_wasSold 32 = .ok (.ireturn, 1) := by decide +kernel
theorem dX2_iceForOneTick_0 : decode cX2_iceForOneTick 0 = .ok (.aload_n 0, 1) := by decide +kernel
theorem dX2_iceForOneTick_1 : decode cX2_iceForOneTick 1 = .ok (.getfield 43, 3) := by decide +kernel
theorem dX2_iceForOneTick_4 : decode cX2_iceForOneTick 4 = .ok (.bipush 9, 2) := by decide +kernel
theorem dX2_iceForOneTick_6 : decode cX2_iceForOneTick 6 = .ok (.iadd, 1) := by decide +kernel
theorem dX2_iceForOneTick_7 : decode cX2_iceForOneTick 7 = .ok (.bipush 10, 2) := by decide +kernel
theorem dX2_iceForOneTick_9 : decode cX2_iceForOneTick 9 = .ok (.idiv, 1) := by decide +kernel
theorem dX2_iceForOneTick_10 : decode cX2_iceForOneTick 10 = .ok (.ireturn, 1) := by decide +kernel
theorem dX2_ticksOfIce_0 : decode cX2_ticksOfIce 0 = .ok (.aload_n 0, 1) := by decide +kernel
theorem dX2_ticksOfIce_1 : decode cX2_ticksOfIce 1 = .ok (.invokevirtual 50, 3) := by decide +kernel
theorem dX2_ticksOfIce_4 : decode cX2_ticksOfIce 4 = .ok (.istore_n 1, 1) := by decide +kernel
theorem dX2_ticksOfIce_5 : decode cX2_ticksOfIce 5 = .ok (.iload_n 1, 1) := by decide +kernel
theorem dX2_ticksOfIce_6 : decode cX2_ticksOfIce 6 = .ok (.iconst 1, 1) := by decide +kernel
theorem dX2_ticksOfIce_7 : decode cX2_ticksOfIce 7 = .ok (.if_icmp .ge 7, 3) := by decide +kernel
theorem dX2_ticksOfIce_10 : decode cX2_ticksOfIce 10 = .ok (.iconst 0, 1) := by decide +kernel
theorem dX2_ticksOfIce_11 : decode cX2_ticksOfIce 11 = .ok (.goto 9, 3) := by decide +kernel
theorem dX2_ticksOfIce_14 : decode cX2_ticksOfIce 14 = .ok (.aload_n 0, 1) := by decide +kernel
theorem dX2_ticksOfIce_15 : decode cX2_ticksOfIce 15 = .ok (.getfield 20, 3) := by decide +kernel
theorem dX2_ticksOfIce_18 : decode cX2_ticksOfIce 18 = .ok (.iload_n 1, 1) := by decide +kernel
theorem dX2_ticksOfIce_19 : decode cX2_ticksOfIce 19 = .ok (.idiv, 1) := by decide +kernel
theorem dX2_ticksOfIce_20 : decode cX2_ticksOfIce 20 = .ok (.ireturn, 1) := by decide +kernel
theorem dX2_age_0 : decode cX2_age 0 = .ok (.aload_n 0, 1) := by decide +kernel
theorem dX2_age_1 : decode cX2_age 1 = .ok (.invokevirtual 50, 3) := by decide +kernel
theorem dX2_age_4 : decode cX2_age 4 = .ok (.istore_n 1, 1) := by decide +kernel
theorem dX2_age_5 : decode cX2_age 5 = .ok (.aload_n 0, 1) := by decide +kernel
theorem dX2_age_6 : decode cX2_age 6 = .ok (.getfield 20, 3) := by decide +kernel
theorem dX2_age_9 : decode cX2_age 9 = .ok (.iload_n 1, 1) := by decide +kernel
theorem dX2_age_10 : decode cX2_age 10 = .ok (.if_icmp .lt 27, 3) := by decide +kernel
theorem dX2_age_13 : decode cX2_age 13 = .ok (.aload_n 0, 1) := by decide +kernel
theorem dX2_age_14 : decode cX2_age 14 = .ok (.dup, 1) := by decide +kernel
theorem dX2_age_15 : decode cX2_age 15 = .ok (.getfield 20, 3) := by decide +kernel
theorem dX2_age_18 : decode cX2_age 18 = .ok (.iload_n 1, 1) := by decide +kernel
theorem dX2_age_19 : decode cX2_age 19 = .ok (.isub, 1) := by decide +kernel
theorem dX2_age_20 : decode cX2_age 20 = .ok (.putfield 20, 3) := by decide +kernel
theorem dX2_age_23 : decode cX2_age 23 = .ok (.aload_n 0, 1) := by decide +kernel
theorem dX2_age_24 : decode cX2_age 24 = .ok (.aload_n 0, 1) := by decide +kernel
theorem dX2_age_25 : decode cX2_age 25 = .ok (.getfield 16, 3) := by decide +kernel
theorem dX2_age_28 : decode cX2_age 28 = .ok (.ldc 54, 2) := by decide +kernel
theorem dX2_age_30 : decode cX2_age 30 = .ok (.fmul, 1) := by decide +kernel
theorem dX2_age_31 : decode cX2_age 31 = .ok (.putfield 16, 3) := by decide +kernel
theorem dX2_age_34 : decode cX2_age 34 = .ok (.goto 14, 3) := by decide +kernel
theorem dX2_age_37 : decode cX2_age 37 = .ok (.aload_n 0, 1) := by decide +kernel
theorem dX2_age_38 : decode cX2_age 38 = .ok (.aload_n 0, 1) := by decide +kernel
theorem dX2_age_39 : decode cX2_age 39 = .ok (.getfield 16, 3) := by decide +kernel
theorem dX2_age_42 : decode cX2_age 42 = .ok (.ldc 55, 2) := by decide +kernel
theorem dX2_age_44 : decode cX2_age 44 = .ok (.fmul, 1) := by decide +kernel
theorem dX2_age_45 : decode cX2_age 45 = .ok (.putfield 16, 3) := by decide +kernel
theorem dX2_age_48 : decode cX2_age 48 = .ok (.aload_n 0, 1) := by decide +kernel
theorem dX2_age_49 : decode cX2_age 49 = .ok (.getfield 16, 3) := by decide +kernel
theorem dX2_age_52 : decode cX2_age 52 = .ok (.ldc 56, 2) := by decide +kernel
theorem dX2_age_54 : decode cX2_age 54 = .ok (.fcmp .g, 1) := by decide +kernel
theorem dX2_age_55 : decode cX2_age 55 = .ok (.ifCond .ge 18, 3) := by decide +kernel
theorem dX2_age_58 : decode cX2_age 58 = .ok (.aload_n 0, 1) := by decide +kernel
theorem dX2_age_59 : decode cX2_age 59 = .ok (.getfield 9, 3) := by decide +kernel
theorem dX2_age_62 : decode cX2_age 62 = .ok (.bipush 102, 2) := by decide +kernel
theorem dX2_age_64 : decode cX2_age 64 = .ok (.if_icmp .ne 9, 3) := by decide +kernel
theorem dX2_age_67 : decode cX2_age 67 = .ok (.aload_n 0, 1) := by decide +kernel
theorem dX2_age_68 : decode cX2_age 68 = .ok (.bipush 120, 2) := by decide +kernel
theorem dX2_age_70 : decode cX2_age 70 = .ok (.putfield 9, 3) := by decide +kernel
theorem dX2_age_73 : decode cX2_age 73 = .ok (.return_, 1) := by decide +kernel
theorem dX3_init_0 : decode cX3_init 0 = .ok (.aload_n 0, 1) := by decide +kernel
theorem dX3_init_1 : decode cX3_init 1 = .ok (.invokespecial 3, 3) := by decide +kernel
theorem dX3_init_4 : decode cX3_init 4 = .ok (.aload_n 0, 1) := by decide +kernel
theorem dX3_init_5 : decode cX3_init 5 = .ok (.iconst 5, 1) := by decide +kernel
theorem dX3_init_6 : decode cX3_init 6 = .ok (.anewarray 9, 3) := by decide +kernel
theorem dX3_init_9 : decode cX3_init 9 = .ok (.putfield 11, 3) := by decide +kernel
theorem dX3_init_12 : decode cX3_init 12 = .ok (.aload_n 0, 1) := by decide +kernel
theorem dX3_init_13 : decode cX3_init 13 = .ok (.iconst 0, 1) := by decide +kernel
theorem dX3_init_14 : decode cX3_init 14 = .ok (.putfield 17, 3) := by decide +kernel
theorem dX3_init_17 : decode cX3_init 17 = .ok (.aload_n 0, 1) := by decide +kernel
theorem dX3_init_18 : decode cX3_init 18 = .ok (.iload_n 1, 1) := by decide +kernel
theorem dX3_init_19 : decode cX3_init 19 = .ok (.putfield 21, 3) := by decide +kernel
theorem dX3_init_22 : decode cX3_init 22 = .ok (.aload_n 0, 1) := by decide +kernel
theorem dX3_init_23 : decode cX3_init 23 = .ok (.iload_n 2, 1) := by decide +kernel
theorem dX3_init_24 : decode cX3_init 24 = .ok (.putfield 24, 3) := by decide +kernel
theorem dX3_init_27 : decode cX3_init 27 = .ok (.aload_n 0, 1) := by decide +kernel
theorem dX3_init_28 : decode cX3_init 28 = .ok (.iload_n 3, 1) := by decide +kernel
theorem dX3_init_29 : decode cX3_init 29 = .ok (.putfield 27, 3) := by decide +kernel
theorem dX3_init_32 : decode cX3_init 32 = .ok (.return_, 1) := by decide +kernel
theorem dX3_hasPlaceFor_0 : decode cX3_hasPlaceFor 0 = .ok (.aload_n 0, 1) := by decide +kernel
theorem dX3_hasPlaceFor_1 : decode cX3_hasPlaceFor 1 = .ok (.getfield 17, 3) := by decide +kernel
theorem dX3_hasPlaceFor_4 : decode cX3_hasPlaceFor 4 = .ok (.aload_n 0, 1) := by decide +kernel
theorem dX3_hasPlaceFor_5 : decode cX3_hasPlaceFor 5 = .ok (.getfield 11, 3) := by decide +kernel
theorem dX3_hasPlaceFor_8 : decode cX3_hasPlaceFor 8 = .ok (.arraylength, 1) := by decide +kernel
theorem dX3_hasPlaceFor_9 : decode cX3_hasPlaceFor 9 = .ok (.if_icmp .ge 18, 3) := by decide +kernel
theorem dX3_hasPlaceFor_12 : decode cX3_hasPlaceFor 12 = .ok (.aload_n 1, 1) := by decide +kernel
theorem dX3_hasPlaceFor_13 : decode cX3_hasPlaceFor 13 = .ok (.getfield 31, 3) := by decide +kernel
theorem dX3_hasPlaceFor_16 : decode cX3_hasPlaceFor 16 = .ok (.aload_n 0, 1) := by decide +kernel
theorem dX3_hasPlaceFor_17 : decode cX3_hasPlaceFor 17 = .ok (.getfield 24, 3) := by decide +kernel
theorem dX3_hasPlaceFor_20 : decode cX3_hasPlaceFor 20 = .ok (.if_icmp .gt 7, 3) := by decide +kernel
theorem dX3_hasPlaceFor_23 : decode cX3_hasPlaceFor 23 = .ok (.iconst 1, 1) := by decide +kernel
theorem dX3_hasPlaceFor_24 : decode cX3_hasPlaceFor 24 = .ok (.goto 4, 3) := by decide +kernel
theorem dX3_hasPlaceFor_27 : decode cX3_hasPlaceFor 27 = .ok (.iconst 0, 1) := by decide +kernel
theorem dX3_hasPlaceFor_28 : decode cX3_hasPlaceFor 28 = .ok (.ireturn, 1) := by decide +kernel
theorem dX3_take_0 : decode cX3_take 0 = .ok (.aload_n 0, 1) := by decide +kernel
theorem dX3_take_1 : decode cX3_take 1 = .ok (.getfield 11, 3) := by decide +kernel
theorem dX3_take_4 : decode cX3_take 4 = .ok (.aload_n 0, 1) := by decide +kernel
theorem dX3_take_5 : decode cX3_take 5 = .ok (.getfield 17, 3) := by decide +kernel
theorem dX3_take_8 : decode cX3_take 8 = .ok (.aload_n 1, 1) := by decide +kernel
theorem dX3_take_9 : decode cX3_take 9 = .ok (.aastore, 1) := by decide +kernel
theorem dX3_take_10 : decode cX3_take 10 = .ok (.aload_n 0, 1) := by decide +kernel
theorem dX3_take_11 : decode cX3_take 11 = .ok (.dup, 1) := by decide +kernel
theorem dX3_take_12 : decode cX3_take 12 = .ok (.getfield 17, 3) := by decide +kernel
theorem dX3_take_15 : decode cX3_take 15 = .ok (.iconst 1, 1) := by decide +kernel
theorem dX3_take_16 : decode cX3_take 16 = .ok (.iadd, 1) := by decide +kernel
theorem dX3_take_17 : decode cX3_take 17 = .ok (.putfield 17, 3) := by decide +kernel
theorem dX3_take_20 : decode cX3_take 20 = .ok (.aload_n 0, 1) := by decide +kernel
theorem dX3_take_21 : decode cX3_take 21 = .ok (.dup, 1) := by decide +kernel
theorem dX3_take_22 : decode cX3_take 22 = .ok (.getfield 24, 3) := by decide +kernel
theorem dX3_take_25 : decode cX3_take 25 = .ok (.aload_n 1, 1) := by decide +kernel
theorem dX3_take_26 : decode cX3_take 26 = .ok (.getfield 31, 3) := by decide +kernel
theorem dX3_take_29 : decode cX3_take 29 = .ok (.isub, 1) := by decide +kernel
theorem dX3_take_30 : decode cX3_take 30 = .ok (.putfield 24, 3) := by decide +kernel
theorem dX3_take_33 : decode cX3_take 33 = .ok (.aload_n 1, 1) := by decide +kernel
theorem dX3_take_34 : decode cX3_take 34 = .ok (.bipush 108, 2) := by decide +kernel
theorem dX3_take_36 : decode cX3_take 36 = .ok (.putfield 34, 3) := by decide +kernel
theorem dX3_take_39 : decode cX3_take 39 = .ok (.return_, 1) := by decide +kernel
theorem dX4_init_0 : decode cX4_init 0 = .ok (.aload_n 0, 1) := by decide +kernel
theorem dX4_init_1 : decode cX4_init 1 = .ok (.invokespecial 1, 3) := by decide +kernel
theorem dX4_init_4 : decode cX4_init 4 = .ok (.aload_n 0, 1) := by decide +kernel
theorem dX4_init_5 : decode cX4_init 5 = .ok (.bipush 6, 2) := by decide +kernel
theorem dX4_init_7 : decode cX4_init 7 = .ok (.anewarray 9, 3) := by decide +kernel
theorem dX4_init_10 : decode cX4_init 10 = .ok (.putfield 11, 3) := by decide +kernel
theorem dX4_init_13 : decode cX4_init 13 = .ok (.aload_n 0, 1) := by decide +kernel
theorem dX4_init_14 : decode cX4_init 14 = .ok (.bipush 20, 2) := by decide +kernel
theorem dX4_init_16 : decode cX4_init 16 = .ok (.anewarray 15, 3) := by decide +kernel
theorem dX4_init_19 : decode cX4_init 19 = .ok (.putfield 17, 3) := by decide +kernel
theorem dX4_init_22 : decode cX4_init 22 = .ok (.aload_n 0, 1) := by decide +kernel
theorem dX4_init_23 : decode cX4_init 23 = .ok (.iconst 5, 1) := by decide +kernel
theorem dX4_init_24 : decode cX4_init 24 = .ok (.anewarray 21, 3) := by decide +kernel
theorem dX4_init_27 : decode cX4_init 27 = .ok (.putfield 23, 3) := by decide +kernel
theorem dX4_init_30 : decode cX4_init 30 = .ok (.aload_n 0, 1) := by decide +kernel
theorem dX4_init_31 : decode cX4_init 31 = .ok (.iconst 4, 1) := by decide +kernel
theorem dX4_init_32 : decode cX4_init 32 = .ok (.anewarray 27, 3) := by decide +kernel
theorem dX4_init_35 : decode cX4_init 35 = .ok (.putfield 29, 3) := by decide +kernel
theorem dX4_init_38 : decode cX4_init 38 = .ok (.aload_n 0, 1) := by decide +kernel
theorem dX4_init_39 : decode cX4_init 39 = .ok (.iconst 0, 1) := by decide +kernel
theorem dX4_init_40 : decode cX4_init 40 = .ok (.putfield 33, 3) := by decide +kernel
theorem dX4_init_43 : decode cX4_init 43 = .ok (.aload_n 0, 1) := by decide +kernel
theorem dX4_init_44 : decode cX4_init 44 = .ok (.iconst 0, 1) := by decide +kernel
theorem dX4_init_45 : decode cX4_init 45 = .ok (.putfield 37, 3) := by decide +kernel
theorem dX4_init_48 : decode cX4_init 48 = .ok (.aload_n 0, 1) := by decide +kernel
theorem dX4_init_49 : decode cX4_init 49 = .ok (.iconst 0, 1) := by decide +kernel
theorem dX4_init_50 : decode cX4_init 50 = .ok (.putfield 40, 3) := by decide +kernel
theorem dX4_init_53 : decode cX4_init 53 = .ok (.aload_n 0, 1) := by decide +kernel
theorem dX4_init_54 : decode cX4_init 54 = .ok (.iconst 0, 1) := by decide +kernel
theorem dX4_init_55 : decode cX4_init 55 = .ok (.putfield 43, 3) := by decide +kernel
theorem dX4_init_58 : decode cX4_init 58 = .ok (.aload_n 0, 1) := by decide +kernel
theorem dX4_init_59 : decode cX4_init 59 = .ok (.iconst 0, 1) := by decide +kernel
theorem dX4_init_60 : decode cX4_init 60 = .ok (.putfield 46, 3) := by decide +kernel
theorem dX4_init_63 : decode cX4_init 63 = .ok (.aload_n 0, 1) := by decide +kernel
theorem dX4_init_64 : decode cX4_init 64 = .ok (.iconst 0, 1) := by decide +kernel
theorem dX4_init_65 : decode cX4_init 65 = .ok (.putfield 49, 3) := by decide +kernel
theorem dX4_init_68 : decode cX4_init 68 = .ok (.aload_n 0, 1) := by decide +kernel
theorem dX4_init_69 : decode cX4_init 69 = .ok (.iconst 0, 1) := by decide +kernel
theorem dX4_init_70 : decode cX4_init 70 = .ok (.putfield 52, 3) := by decide +kernel
theorem dX4_init_73 : decode cX4_init 73 = .ok (.aload_n 0, 1) := by decide +kernel
theorem dX4_init_74 : decode cX4_init 74 = .ok (.sipush 1000, 3) := by decide +kernel
theorem dX4_init_77 : decode cX4_init 77 = .ok (.putfield 55, 3) := by decide +kernel
theorem dX4_init_80 : decode cX4_init 80 = .ok (.aload_n 0, 1) := by decide +kernel
theorem dX4_init_81 : decode cX4_init 81 = .ok (.bipush 10, 2) := by decide +kernel
theorem dX4_init_83 : decode cX4_init 83 = .ok (.putfield 58, 3) := by decide +kernel
theorem dX4_init_86 : decode cX4_init 86 = .ok (.aload_n 0, 1) := by decide +kernel
theorem dX4_init_87 : decode cX4_init 87 = .ok (.iconst 0, 1) := by decide +kernel
theorem dX4_init_88 : decode cX4_init 88 = .ok (.putfield 61, 3) := by decide +kernel
theorem dX4_init_91 : decode cX4_init 91 = .ok (.aload_n 0, 1) := by decide +kernel
theorem dX4_init_92 : decode cX4_init 92 = .ok (.lconst 0, 1) := by decide +kernel
theorem dX4_init_93 : decode cX4_init 93 = .ok (.putfield 64, 3) := by decide +kernel
theorem dX4_init_96 : decode cX4_init 96 = .ok (.return_, 1) := by decide +kernel
theorem dX4_addBoat_0 : decode cX4_addBoat 0 = .ok (.iload_n 1, 1) := by decide +kernel
theorem dX4_addBoat_1 : decode cX4_addBoat 1 = .ok (.invokestatic 68, 3) := by decide +kernel
theorem dX4_addBoat_4 : decode cX4_addBoat 4 = .ok (.ifCond .eq 25, 3) := by decide +kernel
theorem dX4_addBoat_7 : decode cX4_addBoat 7 = .ok (.iload_n 2, 1) := by decide +kernel
theorem dX4_addBoat_8 : decode cX4_addBoat 8 = .ok (.invokestatic 68, 3) := by decide +kernel
theorem dX4_addBoat_11 : decode cX4_addBoat 11 = .ok (.ifCond .eq 18, 3) := by decide +kernel
theorem dX4_addBoat_14 : decode cX4_addBoat 14 = .ok (.iload_n 3, 1) := by decide +kernel
theorem dX4_addBoat_15 : decode cX4_addBoat 15 = .ok (.invokestatic 68, 3) := by decide +kernel
theorem dX4_addBoat_18 : decode cX4_addBoat 18 = .ok (.ifCond .eq 11, 3) := by decide +kernel
theorem dX4_addBoat_21 : decode cX4_addBoat 21 = .ok (.iload 4, 2) := by decide +kernel
theorem dX4_addBoat_23 : decode cX4_addBoat 23 = .ok (.invokestatic 68, 3) := by decide +kernel
theorem dX4_addBoat_26 : decode cX4_addBoat 26 = .ok (.ifCond .ne 13, 3) := by decide +kernel
theorem dX4_addBoat_29 : decode cX4_addBoat 29 = .ok (.new 72, 3) := by decide +kernel
theorem dX4_addBoat_32 : decode cX4_addBoat 32 = .ok (.dup, 1) := by decide +kernel
theorem dX4_addBoat_33 : decode cX4_addBoat 33 = .ok (.ldc 74, 2) := by decide +kernel
theorem dX4_addBoat_35 : decode cX4_addBoat 35 = .ok (.invokespecial 76, 3) := by decide +kernel
theorem dX4_addBoat_38 : decode cX4_addBoat 38 = .ok (.athrow, 1) := by decide +kernel
theorem dX4_addBoat_39 : decode cX4_addBoat 39 = .ok (.aload_n 0, 1) := by decide +kernel
theorem dX4_addBoat_40 : decode cX4_addBoat 40 = .ok (.getfield 33, 3) := by decide +kernel
theorem dX4_addBoat_43 : decode cX4_addBoat 43 = .ok (.aload_n 0, 1) := by decide +kernel
theorem dX4_addBoat_44 : decode cX4_addBoat 44 = .ok (.getfield 11, 3) := by decide +kernel
theorem dX4_addBoat_47 : decode cX4_addBoat 47 = .ok (.arraylength, 1) := by decide +kernel
theorem dX4_addBoat_48 : decode cX4_addBoat 48 = .ok (.if_icmp .lt 13, 3) := by decide +kernel
theorem dX4_addBoat_51 : decode cX4_addBoat 51 = .ok (.new 79, 3) := by decide +kernel
theorem dX4_addBoat_54 : decode cX4_addBoat 54 = .ok (.dup, 1) := by decide +kernel
theorem dX4_addBoat_55 : decode cX4_addBoat 55 = .ok (.ldc 81, 2) := by decide +kernel
theorem dX4_addBoat_57 : decode cX4_addBoat 57 = .ok (.invokespecial 83, 3) := by decide +kernel
theorem dX4_addBoat_60 : decode cX4_addBoat 60 = .ok (.athrow, 1) := by decide +kernel
theorem dX4_addBoat_61 : decode cX4_addBoat 61 = .ok (.aload_n 0, 1) := by decide +kernel
theorem dX4_addBoat_62 : decode cX4_addBoat 62 = .ok (.getfield 33, 3) := by decide +kernel
theorem dX4_addBoat_65 : decode cX4_addBoat 65 = .ok (.istore 5, 2) := by decide +kernel
theorem dX4_addBoat_67 : decode cX4_addBoat 67 = .ok (.aload_n 0, 1) := by decide +kernel
theorem dX4_addBoat_68 : decode cX4_addBoat 68 = .ok (.getfield 11, 3) := by decide +kernel
theorem dX4_addBoat_71 : decode cX4_addBoat 71 = .ok (.iload 5, 2) := by decide +kernel
theorem dX4_addBoat_73 : decode cX4_addBoat 73 = .ok (.new 9, 3) := by decide +kernel
theorem dX4_addBoat_76 : decode cX4_addBoat 76 = .ok (.dup, 1) := by decide +kernel
theorem dX4_addBoat_77 : decode cX4_addBoat 77 = .ok (.iload 5, 2) := by decide +kernel
theorem dX4_addBoat_79 : decode cX4_addBoat 79 = .ok (.iload_n 1, 1) := by decide +kernel
theorem dX4_addBoat_80 : decode cX4_addBoat 80 = .ok (.iload_n 2, 1) := by decide +kernel
theorem dX4_addBoat_81 : decode cX4_addBoat 81 = .ok (.iload_n 3, 1) := by decide +kernel
theorem dX4_addBoat_82 : decode cX4_addBoat 82 = .ok (.iload 4, 2) := by decide +kernel
theorem dX4_addBoat_84 : decode cX4_addBoat 84 = .ok (.invokespecial 84, 3) := by decide +kernel
theorem dX4_addBoat_87 : decode cX4_addBoat 87 = .ok (.aastore, 1) := by decide +kernel
theorem dX4_addBoat_88 : decode cX4_addBoat 88 = .ok (.aload_n 0, 1) := by decide +kernel
theorem dX4_addBoat_89 : decode cX4_addBoat 89 = .ok (.iload 5, 2) := by decide +kernel
theorem dX4_addBoat_91 : decode cX4_addBoat 91 = .ok (.iconst 1, 1) := by decide +kernel
theorem dX4_addBoat_92 : decode cX4_addBoat 92 = .ok (.iadd, 1) := by decide +kernel
theorem dX4_addBoat_93 : decode cX4_addBoat 93 = .ok (.putfield 33, 3) := by decide +kernel
theorem dX4_addBoat_96 : decode cX4_addBoat 96 = .ok (.iload 5, 2) := by decide +kernel
theorem dX4_addBoat_98 : decode cX4_addBoat 98 = .ok (.ireturn, 1) := by decide +kernel
theorem dX4_land_0 : decode cX4_land 0 = .ok (.aload_n 0, 1) := by decide +kernel
theorem dX4_land_1 : decode cX4_land 1 = .ok (.iload_n 1, 1) := by decide +kernel
theorem dX4_land_2 : decode cX4_land 2 = .ok (.invokevirtual 87, 3) := by decide +kernel
theorem dX4_land_5 : decode cX4_land 5 = .ok (.astore 6, 2) := by decide +kernel
theorem dX4_land_7 : decode cX4_land 7 = .ok (.iload_n 2, 1) := by decide +kernel
theorem dX4_land_8 : decode cX4_land 8 = .ok (.invokestatic 91, 3) := by decide +kernel
theorem dX4_land_11 : decode cX4_land 11 = .ok (.ifCond .eq 24, 3) := by decide +kernel
theorem dX4_land_14 : decode cX4_land 14 = .ok (.iload_n 3, 1) := by decide +kernel
theorem dX4_land_15 : decode cX4_land 15 = .ok (.iconst 0, 1) := by decide +kernel
theorem dX4_land_16 : decode cX4_land 16 = .ok (.iconst 2, 1) := by decide +kernel
theorem dX4_land_17 : decode cX4_land 17 = .ok (.invokestatic 94, 3) := by decide +kernel
theorem dX4_land_20 : decode cX4_land 20 = .ok (.ifCond .eq 15, 3) := by decide +kernel
theorem dX4_land_23 : decode cX4_land 23 = .ok (.iload 4, 2) := by decide +kernel
theorem dX4_land_25 : decode cX4_land 25 = .ok (.iconst 1, 1) := by decide +kernel
theorem dX4_land_26 : decode cX4_land 26 = .ok (.sipush 2000, 3) := by decide +kernel
theorem dX4_land_29 : decode cX4_land 29 = .ok (.invokestatic 94, 3) := by decide +kernel
theorem dX4_land_32 : decode cX4_land 32 = .ok (.ifCond .ne 13, 3) := by decide +kernel
theorem dX4_land_35 : decode cX4_land 35 = .ok (.new 72, 3) := by decide +kernel
theorem dX4_land_38 : decode cX4_land 38 = .ok (.dup, 1) := by decide +kernel
theorem dX4_land_39 : decode cX4_land 39 = .ok (.ldc 98, 2) := by decide +kernel
theorem dX4_land_41 : decode cX4_land 41 = .ok (.invokespecial 76, 3) := by decide +kernel
theorem dX4_land_44 : decode cX4_land 44 = .ok (.athrow, 1) := by decide +kernel
theorem dX4_land_45 : decode cX4_land 45 = .ok (.aload_n 0, 1) := by decide +kernel
theorem dX4_land_46 : decode cX4_land 46 = .ok (.getfield 37, 3) := by decide +kernel
theorem dX4_land_49 : decode cX4_land 49 = .ok (.aload_n 0, 1) := by decide +kernel
theorem dX4_land_50 : decode cX4_land 50 = .ok (.getfield 17, 3) := by decide +kernel
theorem dX4_land_53 : decode cX4_land 53 = .ok (.arraylength, 1) := by decide +kernel
theorem dX4_land_54 : decode cX4_land 54 = .ok (.if_icmp .lt 13, 3) := by decide +kernel
theorem dX4_land_57 : decode cX4_land 57 = .ok (.new 79, 3) := by decide +kernel
theorem dX4_land_60 : decode cX4_land 60 = .ok (.dup, 1) := by decide +kernel
theorem dX4_land_61 : decode cX4_land 61 = .ok (.ldc 100, 2) := by decide +kernel
theorem dX4_land_63 : decode cX4_land 63 = .ok (.invokespecial 83, 3) := by decide +kernel
theorem dX4_land_66 : decode cX4_land 66 = .ok (.athrow, 1) := by decide +kernel
theorem dX4_land_67 : decode cX4_land 67 = .ok (.aload 6, 2) := by decide +kernel
theorem dX4_land_69 : decode cX4_land 69 = .ok (.getfield 102, 3) := by decide +kernel
theorem dX4_land_72 : decode cX4_land 72 = .ok (.iload_n 2, 1) := by decide +kernel
theorem dX4_land_73 : decode cX4_land 73 = .ok (.iaload, 1) := by decide +kernel
theorem dX4_land_74 : decode cX4_land 74 = .ok (.ifCond .ne 13, 3) := by decide +kernel
theorem dX4_land_77 : decode cX4_land 77 = .ok (.new 106, 3) := by decide +kernel
theorem dX4_land_80 : decode cX4_land 80 = .ok (.dup, 1) := by decide +kernel
theorem dX4_land_81 : decode cX4_land 81 = .ok (.ldc 108, 2) := by decide +kernel
theorem dX4_land_83 : decode cX4_land 83 = .ok (.invokespecial 110, 3) := by decide +kernel
theorem dX4_land_86 : decode cX4_land 86 = .ok (.athrow, 1) := by decide +kernel
theorem dX4_land_87 : decode cX4_land 87 = .ok (.iload 4, 2) := by decide +kernel
theorem dX4_land_89 : decode cX4_land 89 = .ok (.aload 6, 2) := by decide +kernel
theorem dX4_land_91 : decode cX4_land 91 = .ok (.getfield 102, 3) := by decide +kernel
theorem dX4_land_94 : decode cX4_land 94 = .ok (.iload_n 2, 1) := by decide +kernel
theorem dX4_land_95 : decode cX4_land 95 = .ok (.iaload, 1) := by decide +kernel
theorem dX4_land_96 : decode cX4_land 96 = .ok (.invokestatic 111, 3) := by decide +kernel
theorem dX4_land_99 : decode cX4_land 99 = .ok (.istore 7, 2) := by decide +kernel
theorem dX4_land_101 : decode cX4_land 101 = .ok (.aload_n 0, 1) := by decide +kernel
theorem dX4_land_102 : decode cX4_land 102 = .ok (.getfield 37, 3) := by decide +kernel
theorem dX4_land_105 : decode cX4_land 105 = .ok (.istore 8, 2) := by decide +kernel
theorem dX4_land_107 : decode cX4_land 107 = .ok (.aload_n 0, 1) := by decide +kernel
theorem dX4_land_108 : decode cX4_land 108 = .ok (.getfield 17, 3) := by decide +kernel
theorem dX4_land_111 : decode cX4_land 111 = .ok (.iload 8, 2) := by decide +kernel
theorem dX4_land_113 : decode cX4_land 113 = .ok (.new 15, 3) := by decide +kernel
theorem dX4_land_116 : decode cX4_land 116 = .ok (.dup, 1) := by decide +kernel
theorem dX4_land_117 : decode cX4_land 117 = .ok (.iload 8, 2) := by decide +kernel
theorem dX4_land_119 : decode cX4_land 119 = .ok (.iload_n 1, 1) := by decide +kernel
theorem dX4_land_120 : decode cX4_land 120 = .ok (.iload_n 2, 1) := by decide +kernel
theorem dX4_land_121 : decode cX4_land 121 = .ok (.iload_n 3, 1) := by decide +kernel
theorem dX4_land_122 : decode cX4_land 122 = .ok (.iload 7, 2) := by decide +kernel
theorem dX4_land_124 : decode cX4_land 124 = .ok (.iload 5, 2) := by decide +kernel
theorem dX4_land_126 : decode cX4_land 126 = .ok (.invokespecial 117, 3) := by decide +kernel
theorem dX4_land_129 : decode cX4_land 129 = .ok (.aastore, 1) := by decide +kernel
theorem dX4_land_130 : decode cX4_land 130 = .ok (.aload_n 0, 1) := by decide +kernel
theorem dX4_land_131 : decode cX4_land 131 = .ok (.iload 8, 2) := by decide +kernel
theorem dX4_land_133 : decode cX4_land 133 = .ok (.iconst 1, 1) := by decide +kernel
theorem dX4_land_134 : decode cX4_land 134 = .ok (.iadd, 1) := by decide +kernel
theorem dX4_land_135 : decode cX4_land 135 = .ok (.putfield 37, 3) := by decide +kernel
theorem dX4_land_138 : decode cX4_land 138 = .ok (.aload 6, 2) := by decide +kernel
theorem dX4_land_140 : decode cX4_land 140 = .ok (.getfield 102, 3) := by decide +kernel
theorem dX4_land_143 : decode cX4_land 143 = .ok (.iload_n 2, 1) := by decide +kernel
theorem dX4_land_144 : decode cX4_land 144 = .ok (.dup2, 1) := by decide +kernel
theorem dX4_land_145 : decode cX4_land 145 = .ok (.iaload, 1) := by decide +kernel
theorem dX4_land_146 : decode cX4_land 146 = .ok (.iload 7, 2) := by decide +kernel
theorem dX4_land_148 : decode cX4_land 148 = .ok (.isub, 1) := by decide +kernel
theorem dX4_land_149 : decode cX4_land 149 = .ok (.iastore, 1) := by decide +kernel
theorem dX4_land_150 : decode cX4_land 150 = .ok (.aload_n 0, 1) := by decide +kernel
theorem dX4_land_151 : decode cX4_land 151 = .ok (.dup, 1) := by decide +kernel
theorem dX4_land_152 : decode cX4_land 152 = .ok (.getfield 52, 3) := by decide +kernel
theorem dX4_land_155 : decode cX4_land 155 = .ok (.iload 4, 2) := by decide +kernel
theorem dX4_land_157 : decode cX4_land 157 = .ok (.iload 7, 2) := by decide +kernel
theorem dX4_land_159 : decode cX4_land 159 = .ok (.isub, 1) := by decide +kernel
theorem dX4_land_160 : decode cX4_land 160 = .ok (.iadd, 1) := by decide +kernel
theorem dX4_land_161 : decode cX4_land 161 = .ok (.putfield 52, 3) := by decide +kernel
theorem dX4_land_164 : decode cX4_land 164 = .ok (.iload 8, 2) := by decide +kernel
theorem dX4_land_166 : decode cX4_land 166 = .ok (.ireturn, 1) := by decide +kernel
theorem dX4_moveQuota_0 : decode cX4_moveQuota 0 = .ok (.aload_n 0, 1) := by decide +kernel
theorem dX4_moveQuota_1 : decode cX4_moveQuota 1 = .ok (.iload_n 1, 1) := by decide +kernel
theorem dX4_moveQuota_2 : decode cX4_moveQuota 2 = .ok (.invokevirtual 87, 3) := by decide +kernel
theorem dX4_moveQuota_5 : decode cX4_moveQuota 5 = .ok (.astore 5, 2) := by decide +kernel
theorem dX4_moveQuota_7 : decode cX4_moveQuota 7 = .ok (.aload_n 0, 1) := by decide +kernel
theorem dX4_moveQuota_8 : decode cX4_moveQuota 8 = .ok (.iload_n 2, 1) := by decide +kernel
theorem dX4_moveQuota_9 : decode cX4_moveQuota 9 = .ok (.invokevirtual 87, 3) := by decide +kernel
theorem dX4_moveQuota_12 : decode cX4_moveQuota 12 = .ok (.astore 6, 2) := by decide +kernel
theorem dX4_moveQuota_14 : decode cX4_moveQuota 14 = .ok (.iload_n 1, 1) := by decide +kernel
theorem dX4_moveQuota_15 : decode cX4_moveQuota 15 = .ok (.iload_n 2, 1) := by decide +kernel
theorem dX4_moveQuota_16 : decode cX4_moveQuota 16 = .ok (.if_icmp .eq 22, 3) := by decide +kernel
theorem dX4_moveQuota_19 : decode cX4_moveQuota 19 = .ok (.iload_n 3, 1) := by decide +kernel
theorem dX4_moveQuota_20 : decode cX4_moveQuota 20 = .ok (.invokestatic 91, 3) := by decide +kernel
theorem dX4_moveQuota_23 : decode cX4_moveQuota 23 = .ok (.ifCond .eq 15, 3) := by decide +kernel
theorem dX4_moveQuota_26 : decode cX4_moveQuota 26 = .ok (.iload 4, 2) := by decide +kernel
theorem dX4_moveQuota_28 : decode cX4_moveQuota 28 = .ok (.iconst 1, 1) := by decide +kernel
theorem dX4_moveQuota_29 : decode cX4_moveQuota 29 = .ok (.sipush 9999, 3) := by decide +kernel
theorem dX4_moveQuota_32 : decode cX4_moveQuota 32 = .ok (.invokestatic 94, 3) := by decide +kernel
theorem dX4_moveQuota_35 : decode cX4_moveQuota 35 = .ok (.ifCond .ne 13, 3) := by decide +kernel
theorem dX4_moveQuota_38 : decode cX4_moveQuota 38 = .ok (.new 72, 3) := by decide +kernel
theorem dX4_moveQuota_41 : decode cX4_moveQuota 41 = .ok (.dup, 1) := by decide +kernel
theorem dX4_moveQuota_42 : decode cX4_moveQuota 42 = .ok (.ldc 120, 2) := by decide +kernel
theorem dX4_moveQuota_44 : decode cX4_moveQuota 44 = .ok (.invokespecial 76, 3) := by decide +kernel
theorem dX4_moveQuota_47 : decode cX4_moveQuota 47 = .ok (.athrow, 1) := by decide +kernel
theorem dX4_moveQuota_48 : decode cX4_moveQuota 48 = .ok (.aload 5, 2) := by decide +kernel
theorem dX4_moveQuota_50 : decode cX4_moveQuota 50 = .ok (.getfield 102, 3) := by decide +kernel
theorem dX4_moveQuota_53 : decode cX4_moveQuota 53 = .ok (.iload_n 3, 1) := by decide +kernel
theorem dX4_moveQuota_54 : decode cX4_moveQuota 54 = .ok (.iaload, 1) := by decide +kernel
theorem dX4_moveQuota_55 : decode cX4_moveQuota 55 = .ok (.iload 4, 2) := by decide +kernel
theorem dX4_moveQuota_57 : decode cX4_moveQuota 57 = .ok (.if_icmp .ge 13, 3) := by decide +kernel
theorem dX4_moveQuota_60 : decode cX4_moveQuota 60 = .ok (.new 79, 3) := by decide +kernel
theorem dX4_moveQuota_63 : decode cX4_moveQuota 63 = .ok (.dup, 1) := by decide +kernel
theorem dX4_moveQuota_64 : decode cX4_moveQuota 64 = .ok (.ldc 122, 2) := by decide +kernel
theorem dX4_moveQuota_66 : decode cX4_moveQuota 66 = .ok (.invokespecial 83, 3) := by decide +kernel
theorem dX4_moveQuota_69 : decode cX4_moveQuota 69 = .ok (.athrow, 1) := by decide +kernel
theorem dX4_moveQuota_70 : decode cX4_moveQuota 70 = .ok (.aload 5, 2) := by decide +kernel
theorem dX4_moveQuota_72 : decode cX4_moveQuota 72 = .ok (.iload_n 3, 1) := by decide +kernel
theorem dX4_moveQuota_73 : decode cX4_moveQuota 73 = .ok (.iload 4, 2) := by decide +kernel
theorem dX4_moveQuota_75 : decode cX4_moveQuota 75 = .ok (.ineg, 1) := by decide +kernel
theorem dX4_moveQuota_76 : decode cX4_moveQuota 76 = .ok (.invokevirtual 124, 3) := by decide +kernel
theorem dX4_moveQuota_79 : decode cX4_moveQuota 79 = .ok (.aload 6, 2) := by decide +kernel
theorem dX4_moveQuota_81 : decode cX4_moveQuota 81 = .ok (.iload_n 3, 1) := by decide +kernel
theorem dX4_moveQuota_82 : decode cX4_moveQuota 82 = .ok (.iload 4, 2) := by decide +kernel
theorem dX4_moveQuota_84 : decode cX4_moveQuota 84 = .ok (.invokevirtual 124, 3) := by decide +kernel
theorem dX4_moveQuota_87 : decode cX4_moveQuota 87 = .ok (.aload 5, 2) := by decide +kernel
theorem dX4_moveQuota_89 : decode cX4_moveQuota 89 = .ok (.getfield 102, 3) := by decide +kernel
theorem dX4_moveQuota_92 : decode cX4_moveQuota 92 = .ok (.iload_n 3, 1) := by decide +kernel
theorem dX4_moveQuota_93 : decode cX4_moveQuota 93 = .ok (.iaload, 1) := by decide +kernel
theorem dX4_moveQuota_94 : decode cX4_moveQuota 94 = .ok (.ireturn, 1) := by decide +kernel
theorem dX4_quota_0 : decode cX4_quota 0 = .ok (.aload_n 0, 1) := by decide +kernel
theorem dX4_quota_1 : decode cX4_quota 1 = .ok (.iload_n 1, 1) := by decide +kernel
theorem dX4_quota_2 : decode cX4_quota 2 = .ok (.invokevirtual 87, 3) := by decide +kernel
theorem dX4_quota_5 : decode cX4_quota 5 = .ok (.astore_n 3, 1) := by decide +kernel
theorem dX4_quota_6 : decode cX4_quota 6 = .ok (.iload_n 2, 1) := by decide +kernel
theorem dX4_quota_7 : decode cX4_quota 7 = .ok (.invokestatic 128, 3) := by decide +kernel
theorem dX4_quota_10 : decode cX4_quota 10 = .ok (.aload_n 3, 1) := by decide +kernel
theorem dX4_quota_11 : decode cX4_quota 11 = .ok (.getfield 102, 3) := by decide +kernel
theorem dX4_quota_14 : decode cX4_quota 14 = .ok (.iload_n 2, 1) := by decide +kernel
theorem dX4_quota_15 : decode cX4_quota 15 = .ok (.iaload, 1) := by decide +kernel
theorem dX4_quota_16 : decode cX4_quota 16 = .ok (.ireturn, 1) := by decide +kernel
theorem dX4_quotaAt_0 : decode cX4_quotaAt 0 = .ok (.aload_n 0, 1) := by decide +kernel
theorem dX4_quotaAt_1 : decode cX4_quotaAt 1 = .ok (.iload_n 1, 1) := by decide +kernel
theorem dX4_quotaAt_2 : decode cX4_quotaAt 2 = .ok (.invokevirtual 87, 3) := by decide +kernel
theorem dX4_quotaAt_5 : decode cX4_quotaAt 5 = .ok (.astore 4, 2) := by decide +kernel
theorem dX4_quotaAt_7 : decode cX4_quotaAt 7 = .ok (.iload_n 2, 1) := by decide +kernel
theorem dX4_quotaAt_8 : decode cX4_quotaAt 8 = .ok (.invokestatic 128, 3) := by decide +kernel
theorem dX4_quotaAt_11 : decode cX4_quotaAt 11 = .ok (.iload_n 3, 1) := by decide +kernel
theorem dX4_quotaAt_12 : decode cX4_quotaAt 12 = .ok (.ifCond .lt 11, 3) := by decide +kernel
theorem dX4_quotaAt_15 : decode cX4_quotaAt 15 = .ok (.iload_n 3, 1) := by decide +kernel
theorem dX4_quotaAt_16 : decode cX4_quotaAt 16 = .ok (.aload_n 0, 1) := by decide +kernel
theorem dX4_quotaAt_17 : decode cX4_quotaAt 17 = .ok (.getfield 49, 3) := by decide +kernel
theorem dX4_quotaAt_20 : decode cX4_quotaAt 20 = .ok (.if_icmp .lt 13, 3) := by decide +kernel
theorem dX4_quotaAt_23 : decode cX4_quotaAt 23 = .ok (.new 132, 3) := by decide +kernel
theorem dX4_quotaAt_26 : decode cX4_quotaAt 26 = .ok (.dup, 1) := by decide +kernel
theorem dX4_quotaAt_27 : decode cX4_quotaAt 27 = .ok (.ldc 134, 2) := by decide +kernel
theorem dX4_quotaAt_29 : decode cX4_quotaAt 29 = .ok (.invokespecial 136, 3) := by decide +kernel
theorem dX4_quotaAt_32 : decode cX4_quotaAt 32 = .ok (.athrow, 1) := by decide +kernel
theorem dX4_quotaAt_33 : decode cX4_quotaAt 33 = .ok (.aload 4, 2) := by decide +kernel
theorem dX4_quotaAt_35 : decode cX4_quotaAt 35 = .ok (.iload_n 3, 1) := by decide +kernel
theorem dX4_quotaAt_36 : decode cX4_quotaAt 36 = .ok (.iload_n 2, 1) := by decide +kernel
theorem dX4_quotaAt_37 : decode cX4_quotaAt 37 = .ok (.invokevirtual 137, 3) := by decide +kernel
theorem dX4_quotaAt_40 : decode cX4_quotaAt 40 = .ok (.ireturn, 1) := by decide +kernel
theorem dX4_endDay_0 : decode cX4_endDay 0 = .ok (.aload_n 0, 1) := by decide +kernel
theorem dX4_endDay_1 : decode cX4_endDay 1 = .ok (.getfield 49, 3) := by decide +kernel
theorem dX4_endDay_4 : decode cX4_endDay 4 = .ok (.bipush 19, 2) := by decide +kernel
theorem dX4_endDay_6 : decode cX4_endDay 6 = .ok (.if_icmp .lt 13, 3) := by decide +kernel
theorem dX4_endDay_9 : decode cX4_endDay 9 = .ok (.new 79, 3) := by decide +kernel
theorem dX4_endDay_12 : decode cX4_endDay 12 = .ok (.dup, 1) := by decide +kernel
theorem dX4_endDay_13 : decode cX4_endDay 13 = .ok (.ldc 140, 2) := by decide +kernel
theorem dX4_endDay_15 : decode cX4_endDay 15 = .ok (.invokespecial 83, 3) := by decide +kernel
theorem dX4_endDay_18 : decode cX4_endDay 18 = .ok (.athrow, 1) := by decide +kernel
theorem dX4_endDay_19 : decode cX4_endDay 19 = .ok (.aload_n 0, 1) := by decide +kernel
theorem dX4_endDay_20 : decode cX4_endDay 20 = .ok (.getfield 11, 3) := by decide +kernel
theorem dX4_endDay_23 : decode cX4_endDay 23 = .ok (.astore_n 1, 1) := by decide +kernel
theorem dX4_endDay_24 : decode cX4_endDay 24 = .ok (.aload_n 1, 1) := by decide +kernel
theorem dX4_endDay_25 : decode cX4_endDay 25 = .ok (.arraylength, 1) := by decide +kernel
theorem dX4_endDay_26 : decode cX4_endDay 26 = .ok (.istore_n 2, 1) := by decide +kernel
theorem dX4_endDay_27 : decode cX4_endDay 27 = .ok (.iconst 0, 1) := by decide +kernel
theorem dX4_endDay_28 : decode cX4_endDay 28 = .ok (.istore_n 3, 1) := by decide +kernel
theorem dX4_endDay_29 : decode cX4_endDay 29 = .ok (.iload_n 3, 1) := by decide +kernel
theorem dX4_endDay_30 : decode cX4_endDay 30 = .ok (.iload_n 2, 1) := by decide +kernel
theorem dX4_endDay_31 : decode cX4_endDay 31 = .ok (.if_icmp .ge 28, 3) := by decide +kernel
theorem dX4_endDay_34 : decode cX4_endDay 34 = .ok (.aload_n 1, 1) := by decide +kernel
theorem dX4_endDay_35 : decode cX4_endDay 35 = .ok (.iload_n 3, 1) := by decide +kernel
theorem dX4_endDay_36 : decode cX4_endDay 36 = .ok (.aaload, 1) := by decide +kernel
theorem dX4_endDay_37 : decode cX4_endDay 37 = .ok (.astore 4, 2) := by decide +kernel
theorem dX4_endDay_39 : decode cX4_endDay 39 = .ok (.aload 4, 2) := by decide +kernel
theorem dX4_endDay_41 : decode cX4_endDay 41 = .ok (.ifnull 12, 3) := by decide +kernel
theorem dX4_endDay_44 : decode cX4_endDay 44 = .ok (.aload 4, 2) := by decide +kernel
theorem dX4_endDay_46 : decode cX4_endDay 46 = .ok (.aload_n 0, 1) := by decide +kernel
theorem dX4_endDay_47 : decode cX4_endDay 47 = .ok (.getfield 49, 3) := by decide +kernel
theorem dX4_endDay_50 : decode cX4_endDay 50 = .ok (.invokevirtual 142, 3) := by decide +kernel
theorem dX4_endDay_53 : decode cX4_endDay 53 = .ok (.iinc 3 1, 3) := by decide +kernel
theorem dX4_endDay_56 : decode cX4_endDay 56 = .ok (.goto (-27), 3) := by decide +kernel
theorem dX4_endDay_59 : decode cX4_endDay 59 = .ok (.aload_n 0, 1) := by decide +kernel
theorem dX4_endDay_60 : decode cX4_endDay 60 = .ok (.dup, 1) := by decide +kernel
theorem dX4_endDay_61 : decode cX4_endDay 61 = .ok (.getfield 49, 3) := by decide +kernel
theorem dX4_endDay_64 : decode cX4_endDay 64 = .ok (.iconst 1, 1) := by decide +kernel
theorem dX4_endDay_65 : decode cX4_endDay 65 = .ok (.iadd, 1) := by decide +kernel
theorem dX4_endDay_66 : decode cX4_endDay 66 = .ok (.putfield 49, 3) := by decide +kernel
theorem dX4_endDay_69 : decode cX4_endDay 69 = .ok (.aload_n 0, 1) := by decide +kernel
theorem dX4_endDay_70 : decode cX4_endDay 70 = .ok (.getfield 49, 3) := by decide +kernel
theorem dX4_endDay_73 : decode cX4_endDay 73 = .ok (.ireturn, 1) := by decide +kernel
theorem dX4_beyond_0 : decode cX4_beyond 0 = .ok (.aload_n 0, 1) := by decide +kernel
theorem dX4_beyond_1 : decode cX4_beyond 1 = .ok (.getfield 52, 3) := by decide +kernel
theorem dX4_beyond_4 : decode cX4_beyond 4 = .ok (.ireturn, 1) := by decide +kernel
theorem dX4_weight_0 : decode cX4_weight 0 = .ok (.aload_n 0, 1) := by decide +kernel
theorem dX4_weight_1 : decode cX4_weight 1 = .ok (.iload_n 1, 1) := by decide +kernel
theorem dX4_weight_2 : decode cX4_weight 2 = .ok (.invokevirtual 145, 3) := by decide +kernel
theorem dX4_weight_5 : decode cX4_weight 5 = .ok (.getfield 149, 3) := by decide +kernel
theorem dX4_weight_8 : decode cX4_weight 8 = .ok (.ireturn, 1) := by decide +kernel
theorem dX4_stateOf_0 : decode cX4_stateOf 0 = .ok (.aload_n 0, 1) := by decide +kernel
theorem dX4_stateOf_1 : decode cX4_stateOf 1 = .ok (.iload_n 1, 1) := by decide +kernel
theorem dX4_stateOf_2 : decode cX4_stateOf 2 = .ok (.invokevirtual 145, 3) := by decide +kernel
theorem dX4_stateOf_5 : decode cX4_stateOf 5 = .ok (.getfield 152, 3) := by decide +kernel
theorem dX4_stateOf_8 : decode cX4_stateOf 8 = .ok (.ireturn, 1) := by decide +kernel
theorem dX4_fresh_0 : decode cX4_fresh 0 = .ok (.aload_n 0, 1) := by decide +kernel
theorem dX4_fresh_1 : decode cX4_fresh 1 = .ok (.iload_n 1, 1) := by decide +kernel
theorem dX4_fresh_2 : decode cX4_fresh 2 = .ok (.invokevirtual 145, 3) := by decide +kernel
theorem dX4_fresh_5 : decode cX4_fresh 5 = .ok (.getfield 156, 3) := by decide +kernel
theorem dX4_fresh_8 : decode cX4_fresh 8 = .ok (.freturn, 1) := by decide +kernel
theorem dX4_freshBits_0 : decode cX4_freshBits 0 = .ok (.aload_n 0, 1) := by decide +kernel
theorem dX4_freshBits_1 : decode cX4_freshBits 1 = .ok (.iload_n 1, 1) := by decide +kernel
theorem dX4_freshBits_2 : decode cX4_freshBits 2 = .ok (.invokevirtual 145, 3) := by decide +kernel
theorem dX4_freshBits_5 : decode cX4_freshBits 5 = .ok (.getfield 156, 3) := by decide +kernel
theorem dX4_freshBits_8 : decode cX4_freshBits 8 = .ok (.invokestatic 160, 3) := by decide +kernel
theorem dX4_freshBits_11 : decode cX4_freshBits 11 = .ok (.ireturn, 1) := by decide +kernel
theorem dX4_ice_0 : decode cX4_ice 0 = .ok (.aload_n 0, 1) := by decide +kernel
theorem dX4_ice_1 : decode cX4_ice 1 = .ok (.iload_n 1, 1) := by decide +kernel
theorem dX4_ice_2 : decode cX4_ice 2 = .ok (.invokevirtual 145, 3) := by decide +kernel
theorem dX4_ice_5 : decode cX4_ice 5 = .ok (.astore_n 3, 1) := by decide +kernel
theorem dX4_ice_6 : decode cX4_ice 6 = .ok (.iload_n 2, 1) := by decide +kernel
theorem dX4_ice_7 : decode cX4_ice 7 = .ok (.iconst 1, 1) := by decide +kernel
theorem dX4_ice_8 : decode cX4_ice 8 = .ok (.sipush 999, 3) := by decide +kernel
theorem dX4_ice_11 : decode cX4_ice 11 = .ok (.invokestatic 94, 3) := by decide +kernel
theorem dX4_ice_14 : decode cX4_ice 14 = .ok (.ifCond .ne 13, 3) := by decide +kernel
theorem dX4_ice_17 : decode cX4_ice 17 = .ok (.new 72, 3) := by decide +kernel
theorem dX4_ice_20 : decode cX4_ice 20 = .ok (.dup, 1) := by decide +kernel
theorem dX4_ice_21 : decode cX4_ice 21 = .ok (.ldc 164, 2) := by decide +kernel
theorem dX4_ice_23 : decode cX4_ice 23 = .ok (.invokespecial 76, 3) := by decide +kernel
theorem dX4_ice_26 : decode cX4_ice 26 = .ok (.athrow, 1) := by decide +kernel
theorem dX4_ice_27 : decode cX4_ice 27 = .ok (.aload_n 3, 1) := by decide +kernel
theorem dX4_ice_28 : decode cX4_ice 28 = .ok (.invokevirtual 166, 3) := by decide +kernel
theorem dX4_ice_31 : decode cX4_ice 31 = .ok (.ifCond .ne 13, 3) := by decide +kernel
theorem dX4_ice_34 : decode cX4_ice 34 = .ok (.new 79, 3) := by decide +kernel
theorem dX4_ice_37 : decode cX4_ice 37 = .ok (.dup, 1) := by decide +kernel
theorem dX4_ice_38 : decode cX4_ice 38 = .ok (.ldc 170, 2) := by decide +kernel
theorem dX4_ice_40 : decode cX4_ice 40 = .ok (.invokespecial 83, 3) := by decide +kernel
theorem dX4_ice_43 : decode cX4_ice 43 = .ok (.athrow, 1) := by decide +kernel
theorem dX4_ice_44 : decode cX4_ice 44 = .ok (.aload_n 3, 1) := by decide +kernel
theorem dX4_ice_45 : decode cX4_ice 45 = .ok (.dup, 1) := by decide +kernel
theorem dX4_ice_46 : decode cX4_ice 46 = .ok (.getfield 172, 3) := by decide +kernel
theorem dX4_ice_49 : decode cX4_ice 49 = .ok (.iload_n 2, 1) := by decide +kernel
theorem dX4_ice_50 : decode cX4_ice 50 = .ok (.iadd, 1) := by decide +kernel
theorem dX4_ice_51 : decode cX4_ice 51 = .ok (.putfield 172, 3) := by decide +kernel
theorem dX4_ice_54 : decode cX4_ice 54 = .ok (.aload_n 3, 1) := by decide +kernel
theorem dX4_ice_55 : decode cX4_ice 55 = .ok (.getfield 172, 3) := by decide +kernel
theorem dX4_ice_58 : decode cX4_ice 58 = .ok (.ireturn, 1) := by decide +kernel
theorem dX4_iceOn_0 : decode cX4_iceOn 0 = .ok (.aload_n 0, 1) := by decide +kernel
theorem dX4_iceOn_1 : decode cX4_iceOn 1 = .ok (.iload_n 1, 1) := by decide +kernel
theorem dX4_iceOn_2 : decode cX4_iceOn 2 = .ok (.invokevirtual 145, 3) := by decide +kernel
theorem dX4_iceOn_5 : decode cX4_iceOn 5 = .ok (.getfield 172, 3) := by decide +kernel
theorem dX4_iceOn_8 : decode cX4_iceOn 8 = .ok (.ireturn, 1) := by decide +kernel
theorem dX4_iceLasts_0 : decode cX4_iceLasts 0 = .ok (.aload_n 0, 1) := by decide +kernel
theorem dX4_iceLasts_1 : decode cX4_iceLasts 1 = .ok (.iload_n 1, 1) := by decide +kernel
theorem dX4_iceLasts_2 : decode cX4_iceLasts 2 = .ok (.invokevirtual 145, 3) := by decide +kernel
theorem dX4_iceLasts_5 : decode cX4_iceLasts 5 = .ok (.invokevirtual 175, 3) := by decide +kernel
theorem dX4_iceLasts_8 : decode cX4_iceLasts 8 = .ok (.ireturn, 1) := by decide +kernel
theorem dX4_tick_0 : decode cX4_tick 0 = .ok (.aload_n 0, 1) := by decide +kernel
theorem dX4_tick_1 : decode cX4_tick 1 = .ok (.getfield 17, 3) := by decide +kernel
theorem dX4_tick_4 : decode cX4_tick 4 = .ok (.astore_n 1, 1) := by decide +kernel
theorem dX4_tick_5 : decode cX4_tick 5 = .ok (.aload_n 1, 1) := by decide +kernel
theorem dX4_tick_6 : decode cX4_tick 6 = .ok (.arraylength, 1) := by decide +kernel
theorem dX4_tick_7 : decode cX4_tick 7 = .ok (.istore_n 2, 1) := by decide +kernel
theorem dX4_tick_8 : decode cX4_tick 8 = .ok (.iconst 0, 1) := by decide +kernel
theorem dX4_tick_9 : decode cX4_tick 9 = .ok (.istore_n 3, 1) := by decide +kernel
theorem dX4_tick_10 : decode cX4_tick 10 = .ok (.iload_n 3, 1) := by decide +kernel
theorem dX4_tick_11 : decode cX4_tick 11 = .ok (.iload_n 2, 1) := by decide +kernel
theorem dX4_tick_12 : decode cX4_tick 12 = .ok (.if_icmp .ge 32, 3) := by decide +kernel
theorem dX4_tick_15 : decode cX4_tick 15 = .ok (.aload_n 1, 1) := by decide +kernel
theorem dX4_tick_16 : decode cX4_tick 16 = .ok (.iload_n 3, 1) := by decide +kernel
theorem dX4_tick_17 : decode cX4_tick 17 = .ok (.aaload, 1) := by decide +kernel
theorem dX4_tick_18 : decode cX4_tick 18 = .ok (.astore 4, 2) := by decide +kernel
theorem dX4_tick_20 : decode cX4_tick 20 = .ok (.aload 4, 2) := by decide +kernel
theorem dX4_tick_22 : decode cX4_tick 22 = .ok (.ifnull 16, 3) := by decide +kernel
theorem dX4_tick_25 : decode cX4_tick 25 = .ok (.aload 4, 2) := by decide +kernel
theorem dX4_tick_27 : decode cX4_tick 27 = .ok (.invokevirtual 166, 3) := by decide +kernel
theorem dX4_tick_30 : decode cX4_tick 30 = .ok (.ifCond .eq 8, 3) := by decide +kernel
theorem dX4_tick_33 : decode cX4_tick 33 = .ok (.aload 4, 2) := by decide +kernel
theorem dX4_tick_35 : decode cX4_tick 35 = .ok (.invokevirtual 179, 3) := by decide +kernel
theorem dX4_tick_38 : decode cX4_tick 38 = .ok (.iinc 3 1, 3) := by decide +kernel
theorem dX4_tick_41 : decode cX4_tick 41 = .ok (.goto (-31), 3) := by decide +kernel
theorem dX4_tick_44 : decode cX4_tick 44 = .ok (.aload_n 0, 1) := by decide +kernel
theorem dX4_tick_45 : decode cX4_tick 45 = .ok (.dup, 1) := by decide +kernel
theorem dX4_tick_46 : decode cX4_tick 46 = .ok (.getfield 46, 3) := by decide +kernel
theorem dX4_tick_49 : decode cX4_tick 49 = .ok (.iconst 1, 1) := by decide +kernel
theorem dX4_tick_50 : decode cX4_tick 50 = .ok (.iadd, 1) := by decide +kernel
theorem dX4_tick_51 : decode cX4_tick 51 = .ok (.putfield 46, 3) := by decide +kernel
theorem dX4_tick_54 : decode cX4_tick 54 = .ok (.iconst 0, 1) := by decide +kernel
theorem dX4_tick_55 : decode cX4_tick 55 = .ok (.istore_n 1, 1) := by decide +kernel
theorem dX4_tick_56 : decode cX4_tick 56 = .ok (.aload_n 0, 1) := by decide +kernel
theorem dX4_tick_57 : decode cX4_tick 57 = .ok (.getfield 29, 3) := by decide +kernel
theorem dX4_tick_60 : decode cX4_tick 60 = .ok (.astore_n 2, 1) := by decide +kernel
theorem dX4_tick_61 : decode cX4_tick 61 = .ok (.aload_n 2, 1) := by decide +kernel
theorem dX4_tick_62 : decode cX4_tick 62 = .ok (.arraylength, 1) := by decide +kernel
theorem dX4_tick_63 : decode cX4_tick 63 = .ok (.istore_n 3, 1) := by decide +kernel
theorem dX4_tick_64 : decode cX4_tick 64 = .ok (.iconst 0, 1) := by decide +kernel
theorem dX4_tick_65 : decode cX4_tick 65 = .ok (.istore 4, 2) := by decide +kernel
theorem dX4_tick_67 : decode cX4_tick 67 = .ok (.iload 4, 2) := by decide +kernel
theorem dX4_tick_69 : decode cX4_tick 69 = .ok (.iload_n 3, 1) := by decide +kernel
theorem dX4_tick_70 : decode cX4_tick 70 = .ok (.if_icmp .ge 41, 3) := by decide +kernel
theorem dX4_tick_73 : decode cX4_tick 73 = .ok (.aload_n 2, 1) := by decide +kernel
theorem dX4_tick_74 : decode cX4_tick 74 = .ok (.iload 4, 2) := by decide +kernel
theorem dX4_tick_76 : decode cX4_tick 76 = .ok (.aaload, 1) := by decide +kernel
theorem dX4_tick_77 : decode cX4_tick 77 = .ok (.astore 5, 2) := by decide +kernel
theorem dX4_tick_79 : decode cX4_tick 79 = .ok (.aload 5, 2) := by decide +kernel
theorem dX4_tick_81 : decode cX4_tick 81 = .ok (.ifnull 24, 3) := by decide +kernel
theorem dX4_tick_84 : decode cX4_tick 84 = .ok (.aload 5, 2) := by decide +kernel
theorem dX4_tick_86 : decode cX4_tick 86 = .ok (.getfield 182, 3) := by decide +kernel
theorem dX4_tick_89 : decode cX4_tick 89 = .ok (.aload_n 0, 1) := by decide +kernel
theorem dX4_tick_90 : decode cX4_tick 90 = .ok (.getfield 46, 3) := by decide +kernel
theorem dX4_tick_93 : decode cX4_tick 93 = .ok (.if_icmp .ne 12, 3) := by decide +kernel
theorem dX4_tick_96 : decode cX4_tick 96 = .ok (.aload_n 0, 1) := by decide +kernel
theorem dX4_tick_97 : decode cX4_tick 97 = .ok (.aload 5, 2) := by decide +kernel
theorem dX4_tick_99 : decode cX4_tick 99 = .ok (.invokevirtual 185, 3) := by decide +kernel
theorem dX4_tick_102 : decode cX4_tick 102 = .ok (.iinc 1 1, 3) := by decide +kernel
theorem dX4_tick_105 : decode cX4_tick 105 = .ok (.iinc 4 1, 3) := by decide +kernel
theorem dX4_tick_108 : decode cX4_tick 108 = .ok (.goto (-41), 3) := by decide +kernel
theorem dX4_tick_111 : decode cX4_tick 111 = .ok (.iload_n 1, 1) := by decide +kernel
theorem dX4_tick_112 : decode cX4_tick 112 = .ok (.ireturn, 1) := by decide +kernel
theorem dX4_time_0 : decode cX4_time 0 = .ok (.aload_n 0, 1) := by decide +kernel
theorem dX4_time_1 : decode cX4_time 1 = .ok (.getfield 46, 3) := by decide +kernel
theorem dX4_time_4 : decode cX4_time 4 = .ok (.ireturn, 1) := by decide +kernel
theorem dX4_addBuyer_0 : decode cX4_addBuyer 0 = .ok (.iload_n 1, 1) := by decide +kernel
theorem dX4_addBuyer_1 : decode cX4_addBuyer 1 = .ok (.iconst 0, 1) := by decide +kernel
theorem dX4_addBuyer_2 : decode cX4_addBuyer 2 = .ok (.ldc 189, 2) := by decide +kernel
theorem dX4_addBuyer_4 : decode cX4_addBuyer 4 = .ok (.invokestatic 94, 3) := by decide +kernel
theorem dX4_addBuyer_7 : decode cX4_addBuyer 7 = .ok (.ifCond .ne 13, 3) := by decide +kernel
theorem dX4_addBuyer_10 : decode cX4_addBuyer 10 = .ok (.new 72, 3) := by decide +kernel
theorem dX4_addBuyer_13 : decode cX4_addBuyer 13 = .ok (.dup, 1) := by decide +kernel
theorem dX4_addBuyer_14 : decode cX4_addBuyer 14 = .ok (.ldc 190, 2) := by decide +kernel
theorem dX4_addBuyer_16 : decode cX4_addBuyer 16 = .ok (.invokespecial 76, 3) := by decide +kernel
theorem dX4_addBuyer_19 : decode cX4_addBuyer 19 = .ok (.athrow, 1) := by decide +kernel
theorem dX4_addBuyer_20 : decode cX4_addBuyer 20 = .ok (.aload_n 0, 1) := by decide +kernel
theorem dX4_addBuyer_21 : decode cX4_addBuyer 21 = .ok (.getfield 40, 3) := by decide +kernel
theorem dX4_addBuyer_24 : decode cX4_addBuyer 24 = .ok (.aload_n 0, 1) := by decide +kernel
theorem dX4_addBuyer_25 : decode cX4_addBuyer 25 = .ok (.getfield 23, 3) := by decide +kernel
theorem dX4_addBuyer_28 : decode cX4_addBuyer 28 = .ok (.arraylength, 1) := by decide +kernel
theorem dX4_addBuyer_29 : decode cX4_addBuyer 29 = .ok (.if_icmp .lt 13, 3) := by decide +kernel
theorem dX4_addBuyer_32 : decode cX4_addBuyer 32 = .ok (.new 79, 3) := by decide +kernel
theorem dX4_addBuyer_35 : decode cX4_addBuyer 35 = .ok (.dup, 1) := by decide +kernel
theorem dX4_addBuyer_36 : decode cX4_addBuyer 36 = .ok (.ldc 192, 2) := by decide +kernel
theorem dX4_addBuyer_38 : decode cX4_addBuyer 38 = .ok (.invokespecial 83, 3) := by decide +kernel
theorem dX4_addBuyer_41 : decode cX4_addBuyer 41 = .ok (.athrow, 1) := by decide +kernel
theorem dX4_addBuyer_42 : decode cX4_addBuyer 42 = .ok (.aload_n 0, 1) := by decide +kernel
theorem dX4_addBuyer_43 : decode cX4_addBuyer 43 = .ok (.getfield 40, 3) := by decide +kernel
theorem dX4_addBuyer_46 : decode cX4_addBuyer 46 = .ok (.istore_n 2, 1) := by decide +kernel
theorem dX4_addBuyer_47 : decode cX4_addBuyer 47 = .ok (.aload_n 0, 1) := by decide +kernel
theorem dX4_addBuyer_48 : decode cX4_addBuyer 48 = .ok (.getfield 23, 3) := by decide +kernel
theorem dX4_addBuyer_51 : decode cX4_addBuyer 51 = .ok (.iload_n 2, 1) := by decide +kernel
theorem dX4_addBuyer_52 : decode cX4_addBuyer 52 = .ok (.new 21, 3) := by decide +kernel
theorem dX4_addBuyer_55 : decode cX4_addBuyer 55 = .ok (.dup, 1) := by decide +kernel
theorem dX4_addBuyer_56 : decode cX4_addBuyer 56 = .ok (.iload_n 2, 1) := by decide +kernel
theorem dX4_addBuyer_57 : decode cX4_addBuyer 57 = .ok (.iload_n 1, 1) := by decide +kernel
theorem dX4_addBuyer_58 : decode cX4_addBuyer 58 = .ok (.invokespecial 194, 3) := by decide +kernel
theorem dX4_addBuyer_61 : decode cX4_addBuyer 61 = .ok (.aastore, 1) := by decide +kernel
theorem dX4_addBuyer_62 : decode cX4_addBuyer 62 = .ok (.aload_n 0, 1) := by decide +kernel
theorem dX4_addBuyer_63 : decode cX4_addBuyer 63 = .ok (.iload_n 2, 1) := by decide +kernel
theorem dX4_addBuyer_64 : decode cX4_addBuyer 64 = .ok (.iconst 1, 1) := by decide +kernel
theorem dX4_addBuyer_65 : decode cX4_addBuyer 65 = .ok (.iadd, 1) := by decide +kernel
theorem dX4_addBuyer_66 : decode cX4_addBuyer 66 = .ok (.putfield 40, 3) := by decide +kernel
theorem dX4_addBuyer_69 : decode cX4_addBuyer 69 = .ok (.iload_n 2, 1) := by decide +kernel
theorem dX4_addBuyer_70 : decode cX4_addBuyer 70 = .ok (.ireturn, 1) := by decide +kernel
theorem dX4_setLimit_0 : decode cX4_setLimit 0 = .ok (.aload_n 0, 1) := by decide +kernel
theorem dX4_setLimit_1 : decode cX4_setLimit 1 = .ok (.iload_n 1, 1) := by decide +kernel
theorem dX4_setLimit_2 : decode cX4_setLimit 2 = .ok (.invokevirtual 196, 3) := by decide +kernel
theorem dX4_setLimit_5 : decode cX4_setLimit 5 = .ok (.astore 4, 2) := by decide +kernel
theorem dX4_setLimit_7 : decode cX4_setLimit 7 = .ok (.iload_n 2, 1) := by decide +kernel
theorem dX4_setLimit_8 : decode cX4_setLimit 8 = .ok (.invokestatic 91, 3) := by decide +kernel
theorem dX4_setLimit_11 : decode cX4_setLimit 11 = .ok (.ifCond .eq 14, 3) := by decide +kernel
theorem dX4_setLimit_14 : decode cX4_setLimit 14 = .ok (.iload_n 3, 1) := by decide +kernel
theorem dX4_setLimit_15 : decode cX4_setLimit 15 = .ok (.iconst 0, 1) := by decide +kernel
theorem dX4_setLimit_16 : decode cX4_setLimit 16 = .ok (.sipush 9999, 3) := by decide +kernel
theorem dX4_setLimit_19 : decode cX4_setLimit 19 = .ok (.invokestatic 94, 3) := by decide +kernel
theorem dX4_setLimit_22 : decode cX4_setLimit 22 = .ok (.ifCond .ne 13, 3) := by decide +kernel
theorem dX4_setLimit_25 : decode cX4_setLimit 25 = .ok (.new 72, 3) := by decide +kernel
theorem dX4_setLimit_28 : decode cX4_setLimit 28 = .ok (.dup, 1) := by decide +kernel
theorem dX4_setLimit_29 : decode cX4_setLimit 29 = .ok (.ldc 200, 2) := by decide +kernel
theorem dX4_setLimit_31 : decode cX4_setLimit 31 = .ok (.invokespecial 76, 3) := by decide +kernel
theorem dX4_setLimit_34 : decode cX4_setLimit 34 = .ok (.athrow, 1) := by decide +kernel
theorem dX4_setLimit_35 : decode cX4_setLimit 35 = .ok (.aload 4, 2) := by decide +kernel
theorem dX4_setLimit_37 : decode cX4_setLimit 37 = .ok (.getfield 202, 3) := by decide +kernel
theorem dX4_setLimit_40 : decode cX4_setLimit 40 = .ok (.iload_n 2, 1) := by decide +kernel
theorem dX4_setLimit_41 : decode cX4_setLimit 41 = .ok (.iaload, 1) := by decide +kernel
theorem dX4_setLimit_42 : decode cX4_setLimit 42 = .ok (.istore 5, 2) := by decide +kernel
theorem dX4_setLimit_44 : decode cX4_setLimit 44 = .ok (.aload 4, 2) := by decide +kernel
theorem dX4_setLimit_46 : decode cX4_setLimit 46 = .ok (.getfield 202, 3) := by decide +kernel
theorem dX4_setLimit_49 : decode cX4_setLimit 49 = .ok (.iload_n 2, 1) := by decide +kernel
theorem dX4_setLimit_50 : decode cX4_setLimit 50 = .ok (.iload_n 3, 1) := by decide +kernel
theorem dX4_setLimit_51 : decode cX4_setLimit 51 = .ok (.iastore, 1) := by decide +kernel
theorem dX4_setLimit_52 : decode cX4_setLimit 52 = .ok (.iload 5, 2) := by decide +kernel
theorem dX4_setLimit_54 : decode cX4_setLimit 54 = .ok (.ireturn, 1) := by decide +kernel
theorem dX4_budget_0 : decode cX4_budget 0 = .ok (.aload_n 0, 1) := by decide +kernel
theorem dX4_budget_1 : decode cX4_budget 1 = .ok (.iload_n 1, 1) := by decide +kernel
theorem dX4_budget_2 : decode cX4_budget 2 = .ok (.invokevirtual 196, 3) := by decide +kernel
theorem dX4_budget_5 : decode cX4_budget 5 = .ok (.getfield 205, 3) := by decide +kernel
theorem dX4_budget_8 : decode cX4_budget 8 = .ok (.ireturn, 1) := by decide +kernel
theorem dX4_setClock_0 : decode cX4_setClock 0 = .ok (.iload_n 1, 1) := by decide +kernel
theorem dX4_setClock_1 : decode cX4_setClock 1 = .ok (.iconst 1, 1) := by decide +kernel
theorem dX4_setClock_2 : decode cX4_setClock 2 = .ok (.sipush 9999, 3) := by decide +kernel
theorem dX4_setClock_5 : decode cX4_setClock 5 = .ok (.invokestatic 94, 3) := by decide +kernel
theorem dX4_setClock_8 : decode cX4_setClock 8 = .ok (.ifCond .eq 23, 3) := by decide +kernel
theorem dX4_setClock_11 : decode cX4_setClock 11 = .ok (.iload_n 2, 1) := by decide +kernel
theorem dX4_setClock_12 : decode cX4_setClock 12 = .ok (.iconst 1, 1) := by decide +kernel
theorem dX4_setClock_13 : decode cX4_setClock 13 = .ok (.sipush 500, 3) := by decide +kernel
theorem dX4_setClock_16 : decode cX4_setClock 16 = .ok (.invokestatic 94, 3) := by decide +kernel
theorem dX4_setClock_19 : decode cX4_setClock 19 = .ok (.ifCond .eq 12, 3) := by decide +kernel
theorem dX4_setClock_22 : decode cX4_setClock 22 = .ok (.iload_n 3, 1) := by decide +kernel
theorem dX4_setClock_23 : decode cX4_setClock 23 = .ok (.iconst 0, 1) := by decide +kernel
theorem dX4_setClock_24 : decode cX4_setClock 24 = .ok (.iload_n 1, 1) := by decide +kernel
theorem dX4_setClock_25 : decode cX4_setClock 25 = .ok (.invokestatic 94, 3) := by decide +kernel
theorem dX4_setClock_28 : decode cX4_setClock 28 = .ok (.ifCond .ne 13, 3) := by decide +kernel
theorem dX4_setClock_31 : decode cX4_setClock 31 = .ok (.new 72, 3) := by decide +kernel
theorem dX4_setClock_34 : decode cX4_setClock 34 = .ok (.dup, 1) := by decide +kernel
theorem dX4_setClock_35 : decode cX4_setClock 35 = .ok (.ldc 208, 2) := by decide +kernel
theorem dX4_setClock_37 : decode cX4_setClock 37 = .ok (.invokespecial 76, 3) := by decide +kernel
theorem dX4_setClock_40 : decode cX4_setClock 40 = .ok (.athrow, 1) := by decide +kernel
theorem dX4_setClock_41 : decode cX4_setClock 41 = .ok (.aload_n 0, 1) := by decide +kernel
theorem dX4_setClock_42 : decode cX4_setClock 42 = .ok (.getfield 55, 3) := by decide +kernel
theorem dX4_setClock_45 : decode cX4_setClock 45 = .ok (.istore 4, 2) := by decide +kernel
theorem dX4_setClock_47 : decode cX4_setClock 47 = .ok (.aload_n 0, 1) := by decide +kernel
theorem dX4_setClock_48 : decode cX4_setClock 48 = .ok (.iload_n 1, 1) := by decide +kernel
theorem dX4_setClock_49 : decode cX4_setClock 49 = .ok (.putfield 55, 3) := by decide +kernel
theorem dX4_setClock_52 : decode cX4_setClock 52 = .ok (.aload_n 0, 1) := by decide +kernel
theorem dX4_setClock_53 : decode cX4_setClock 53 = .ok (.iload_n 2, 1) := by decide +kernel
theorem dX4_setClock_54 : decode cX4_setClock 54 = .ok (.putfield 58, 3) := by decide +kernel
theorem dX4_setClock_57 : decode cX4_setClock 57 = .ok (.aload_n 0, 1) := by decide +kernel
theorem dX4_setClock_58 : decode cX4_setClock 58 = .ok (.iload_n 3, 1) := by decide +kernel
theorem dX4_setClock_59 : decode cX4_setClock 59 = .ok (.putfield 61, 3) := by decide +kernel
theorem dX4_setClock_62 : decode cX4_setClock 62 = .ok (.iload 4, 2) := by decide +kernel
theorem dX4_setClock_64 : decode cX4_setClock 64 = .ok (.ireturn, 1) := by decide +kernel
theorem dX4_offer_0 : decode cX4_offer 0 = .ok (.aload_n 0, 1) := by decide +kernel
theorem dX4_offer_1 : decode cX4_offer 1 = .ok (.iload_n 1, 1) := by decide +kernel
theorem dX4_offer_2 : decode cX4_offer 2 = .ok (.invokevirtual 196, 3) := by decide +kernel
theorem dX4_offer_5 : decode cX4_offer 5 = .ok (.astore_n 3, 1) := by decide +kernel
theorem dX4_offer_6 : decode cX4_offer 6 = .ok (.aload_n 3, 1) := by decide +kernel
theorem dX4_offer_7 : decode cX4_offer 7 = .ok (.aload_n 0, 1) := by decide +kernel
theorem dX4_offer_8 : decode cX4_offer 8 = .ok (.iload_n 2, 1) := by decide +kernel
theorem dX4_offer_9 : decode cX4_offer 9 = .ok (.invokevirtual 145, 3) := by decide +kernel
theorem dX4_offer_12 : decode cX4_offer 12 = .ok (.invokevirtual 210, 3) := by decide +kernel
theorem dX4_offer_15 : decode cX4_offer 15 = .ok (.ireturn, 1) := by decide +kernel
theorem dX4_price_0 : decode cX4_price 0 = .ok (.aload_n 0, 1) := by decide +kernel
theorem dX4_price_1 : decode cX4_price 1 = .ok (.aload_n 0, 1) := by decide +kernel
theorem dX4_price_2 : decode cX4_price 2 = .ok (.iload_n 1, 1) := by decide +kernel
theorem dX4_price_3 : decode cX4_price 3 = .ok (.invokevirtual 214, 3) := by decide +kernel
theorem dX4_price_6 : decode cX4_price 6 = .ok (.invokevirtual 217, 3) := by decide +kernel
theorem dX4_price_9 : decode cX4_price 9 = .ok (.istore_n 2, 1) := by decide +kernel
theorem dX4_price_10 : decode cX4_price 10 = .ok (.iload_n 2, 1) := by decide +kernel
theorem dX4_price_11 : decode cX4_price 11 = .ok (.iconst (-1), 1) := by decide +kernel
theorem dX4_price_12 : decode cX4_price 12 = .ok (.if_icmp .ne 13, 3) := by decide +kernel
theorem dX4_price_15 : decode cX4_price 15 = .ok (.new 106, 3) := by decide +kernel
theorem dX4_price_18 : decode cX4_price 18 = .ok (.dup, 1) := by decide +kernel
theorem dX4_price_19 : decode cX4_price 19 = .ok (.ldc 220, 2) := by decide +kernel
theorem dX4_price_21 : decode cX4_price 21 = .ok (.invokespecial 110, 3) := by decide +kernel
theorem dX4_price_24 : decode cX4_price 24 = .ok (.athrow, 1) := by decide +kernel
theorem dX4_price_25 : decode cX4_price 25 = .ok (.iload_n 2, 1) := by decide +kernel
theorem dX4_price_26 : decode cX4_price 26 = .ok (.ireturn, 1) := by decide +kernel
theorem dX4_priceByBuyers_0 : decode cX4_priceByBuyers 0 = .ok (.aload_n 0, 1) := by decide +kernel
theorem dX4_priceByBuyers_1 : decode cX4_priceByBuyers 1 = .ok (.aload_n 0, 1) := by decide +kernel
theorem dX4_priceByBuyers_2 : decode cX4_priceByBuyers 2 = .ok (.iload_n 1, 1) := by decide +kernel
theorem dX4_priceByBuyers_3 : decode cX4_priceByBuyers 3 = .ok (.invokevirtual 214, 3) := by decide +kernel
theorem dX4_priceByBuyers_6 : decode cX4_priceByBuyers 6 = .ok (.invokevirtual 222, 3) := by decide +kernel
theorem dX4_priceByBuyers_9 : decode cX4_priceByBuyers 9 = .ok (.istore_n 2, 1) := by decide +kernel
theorem dX4_priceByBuyers_10 : decode cX4_priceByBuyers 10 = .ok (.iload_n 2, 1) := by decide +kernel
theorem dX4_priceByBuyers_11 : decode cX4_priceByBuyers 11 = .ok (.iconst (-1), 1) := by decide +kernel
theorem dX4_priceByBuyers_12 : decode cX4_priceByBuyers 12 = .ok (.if_icmp .ne 13, 3) := by decide +kernel
theorem dX4_priceByBuyers_15 : decode cX4_priceByBuyers 15 = .ok (.new 106, 3) := by decide +kernel
theorem dX4_priceByBuyers_18 : decode cX4_priceByBuyers 18 = .ok (.dup, 1) := by decide +kernel
theorem dX4_priceByBuyers_19 : decode cX4_priceByBuyers 19 = .ok (.ldc 220, 2) := by decide +kernel
theorem dX4_priceByBuyers_21 : decode cX4_priceByBuyers 21 = .ok (.invokespecial 110, 3) := by decide +kernel
theorem dX4_priceByBuyers_24 : decode cX4_priceByBuyers 24 = .ok (.athrow, 1) := by decide +kernel
theorem dX4_priceByBuyers_25 : decode cX4_priceByBuyers 25 = .ok (.iload_n 2, 1) := by decide +kernel
theorem dX4_priceByBuyers_26 : decode cX4_priceByBuyers 26 = .ok (.ireturn, 1) := by decide +kernel
theorem dX4_sell_0 : decode cX4_sell 0 = .ok (.aload_n 0, 1) := by decide +kernel
theorem dX4_sell_1 : decode cX4_sell 1 = .ok (.iload_n 1, 1) := by decide +kernel
theorem dX4_sell_2 : decode cX4_sell 2 = .ok (.invokevirtual 214, 3) := by decide +kernel
theorem dX4_sell_5 : decode cX4_sell 5 = .ok (.astore_n 2, 1) := by decide +kernel
theorem dX4_sell_6 : decode cX4_sell 6 = .ok (.aload_n 0, 1) := by decide +kernel
theorem dX4_sell_7 : decode cX4_sell 7 = .ok (.aload_n 2, 1) := by decide +kernel
theorem dX4_sell_8 : decode cX4_sell 8 = .ok (.invokevirtual 217, 3) := by decide +kernel
theorem dX4_sell_11 : decode cX4_sell 11 = .ok (.istore_n 3, 1) := by decide +kernel
theorem dX4_sell_12 : decode cX4_sell 12 = .ok (.iload_n 3, 1) := by decide +kernel
theorem dX4_sell_13 : decode cX4_sell 13 = .ok (.iconst (-1), 1) := by decide +kernel
theorem dX4_sell_14 : decode cX4_sell 14 = .ok (.if_icmp .ne 7, 3) := by decide +kernel
theorem dX4_sell_17 : decode cX4_sell 17 = .ok (.aconst_null, 1) := by decide +kernel
theorem dX4_sell_18 : decode cX4_sell 18 = .ok (.goto 9, 3) := by decide +kernel
theorem dX4_sell_21 : decode cX4_sell 21 = .ok (.aload_n 0, 1) := by decide +kernel
theorem dX4_sell_22 : decode cX4_sell 22 = .ok (.aload_n 2, 1) := by decide +kernel
theorem dX4_sell_23 : decode cX4_sell 23 = .ok (.iload_n 3, 1) := by decide +kernel
theorem dX4_sell_24 : decode cX4_sell 24 = .ok (.invokevirtual 225, 3) := by decide +kernel
theorem dX4_sell_27 : decode cX4_sell 27 = .ok (.astore 4, 2) := by decide +kernel
theorem dX4_sell_29 : decode cX4_sell 29 = .ok (.aload 4, 2) := by decide +kernel
theorem dX4_sell_31 : decode cX4_sell 31 = .ok (.ifnonnull 13, 3) := by decide +kernel
theorem dX4_sell_34 : decode cX4_sell 34 = .ok (.new 106, 3) := by decide +kernel
theorem dX4_sell_37 : decode cX4_sell 37 = .ok (.dup, 1) := by decide +kernel
theorem dX4_sell_38 : decode cX4_sell 38 = .ok (.ldc 229, 2) := by decide +kernel
theorem dX4_sell_40 : decode cX4_sell 40 = .ok (.invokespecial 110, 3) := by decide +kernel
theorem dX4_sell_43 : decode cX4_sell 43 = .ok (.athrow, 1) := by decide +kernel
theorem dX4_sell_44 : decode cX4_sell 44 = .ok (.iload_n 3, 1) := by decide +kernel
theorem dX4_sell_45 : decode cX4_sell 45 = .ok (.aload_n 2, 1) := by decide +kernel
theorem dX4_sell_46 : decode cX4_sell 46 = .ok (.getfield 149, 3) := by decide +kernel
theorem dX4_sell_49 : decode cX4_sell 49 = .ok (.imul, 1) := by decide +kernel
theorem dX4_sell_50 : decode cX4_sell 50 = .ok (.istore 5, 2) := by decide +kernel
theorem dX4_sell_52 : decode cX4_sell 52 = .ok (.aload 4, 2) := by decide +kernel
theorem dX4_sell_54 : decode cX4_sell 54 = .ok (.dup, 1) := by decide +kernel
theorem dX4_sell_55 : decode cX4_sell 55 = .ok (.getfield 205, 3) := by decide +kernel
theorem dX4_sell_58 : decode cX4_sell 58 = .ok (.iload 5, 2) := by decide +kernel
theorem dX4_sell_60 : decode cX4_sell 60 = .ok (.isub, 1) := by decide +kernel
theorem dX4_sell_61 : decode cX4_sell 61 = .ok (.putfield 205, 3) := by decide +kernel
theorem dX4_sell_64 : decode cX4_sell 64 = .ok (.aload_n 2, 1) := by decide +kernel
theorem dX4_sell_65 : decode cX4_sell 65 = .ok (.bipush 115, 2) := by decide +kernel
theorem dX4_sell_67 : decode cX4_sell 67 = .ok (.putfield 152, 3) := by decide +kernel
theorem dX4_sell_70 : decode cX4_sell 70 = .ok (.aload_n 2, 1) := by decide +kernel
theorem dX4_sell_71 : decode cX4_sell 71 = .ok (.aload 4, 2) := by decide +kernel
theorem dX4_sell_73 : decode cX4_sell 73 = .ok (.putfield 231, 3) := by decide +kernel
theorem dX4_sell_76 : decode cX4_sell 76 = .ok (.aload_n 2, 1) := by decide +kernel
theorem dX4_sell_77 : decode cX4_sell 77 = .ok (.iload 5, 2) := by decide +kernel
theorem dX4_sell_79 : decode cX4_sell 79 = .ok (.putfield 235, 3) := by decide +kernel
theorem dX4_sell_82 : decode cX4_sell 82 = .ok (.aload_n 0, 1) := by decide +kernel
theorem dX4_sell_83 : decode cX4_sell 83 = .ok (.dup, 1) := by decide +kernel
theorem dX4_sell_84 : decode cX4_sell 84 = .ok (.getfield 64, 3) := by decide +kernel
theorem dX4_sell_87 : decode cX4_sell 87 = .ok (.iload 5, 2) := by decide +kernel
theorem dX4_sell_89 : decode cX4_sell 89 = .ok (.i2l, 1) := by decide +kernel
theorem dX4_sell_90 : decode cX4_sell 90 = .ok (.ladd, 1) := by decide +kernel
theorem dX4_sell_91 : decode cX4_sell 91 = .ok (.putfield 64, 3) := by decide +kernel
theorem dX4_sell_94 : decode cX4_sell 94 = .ok (.aload 4, 2) := by decide +kernel
theorem dX4_sell_96 : decode cX4_sell 96 = .ok (.getfield 238, 3) := by decide +kernel
theorem dX4_sell_99 : decode cX4_sell 99 = .ok (.ireturn, 1) := by decide +kernel
theorem dX4_buyerOf_0 : decode cX4_buyerOf 0 = .ok (.aload_n 0, 1) := by decide +kernel
theorem dX4_buyerOf_1 : decode cX4_buyerOf 1 = .ok (.iload_n 1, 1) := by decide +kernel
theorem dX4_buyerOf_2 : decode cX4_buyerOf 2 = .ok (.invokevirtual 145, 3) := by decide +kernel
theorem dX4_buyerOf_5 : decode cX4_buyerOf 5 = .ok (.getfield 231, 3) := by decide +kernel
theorem dX4_buyerOf_8 : decode cX4_buyerOf 8 = .ok (.astore_n 2, 1) := by decide +kernel
theorem dX4_buyerOf_9 : decode cX4_buyerOf 9 = .ok (.aload_n 2, 1) := by decide +kernel
theorem dX4_buyerOf_10 : decode cX4_buyerOf 10 = .ok (.ifnonnull 13, 3) := by decide +kernel
theorem dX4_buyerOf_13 : decode cX4_buyerOf 13 = .ok (.new 132, 3) := by decide +kernel
theorem dX4_buyerOf_16 : decode cX4_buyerOf 16 = .ok (.dup, 1) := by decide +kernel
theorem dX4_buyerOf_17 : decode cX4_buyerOf 17 = .ok (.ldc 241, 2) := by decide +kernel
theorem dX4_buyerOf_19 : decode cX4_buyerOf 19 = .ok (.invokespecial 136, 3) := by decide +kernel
theorem dX4_buyerOf_22 : decode cX4_buyerOf 22 = .ok (.athrow, 1) := by decide +kernel
theorem dX4_buyerOf_23 : decode cX4_buyerOf 23 = .ok (.aload_n 2, 1) := by decide +kernel
theorem dX4_buyerOf_24 : decode cX4_buyerOf 24 = .ok (.getfield 238, 3) := by decide +kernel
theorem dX4_buyerOf_27 : decode cX4_buyerOf 27 = .ok (.ireturn, 1) := by decide +kernel
theorem dX4_paidFor_0 : decode cX4_paidFor 0 = .ok (.aload_n 0, 1) := by decide +kernel
theorem dX4_paidFor_1 : decode cX4_paidFor 1 = .ok (.iload_n 1, 1) := by decide +kernel
theorem dX4_paidFor_2 : decode cX4_paidFor 2 = .ok (.invokevirtual 145, 3) := by decide +kernel
theorem dX4_paidFor_5 : decode cX4_paidFor 5 = .ok (.getfield 235, 3) := by decide +kernel
theorem dX4_paidFor_8 : decode cX4_paidFor 8 = .ok (.ireturn, 1) := by decide +kernel
theorem dX4_addTruck_0 : decode cX4_addTruck 0 = .ok (.iload_n 1, 1) := by decide +kernel
theorem dX4_addTruck_1 : decode cX4_addTruck 1 = .ok (.aload_n 0, 1) := by decide +kernel
theorem dX4_addTruck_2 : decode cX4_addTruck 2 = .ok (.getfield 46, 3) := by decide +kernel
theorem dX4_addTruck_5 : decode cX4_addTruck 5 = .ok (.if_icmp .le 22, 3) := by decide +kernel
theorem dX4_addTruck_8 : decode cX4_addTruck 8 = .ok (.iload_n 1, 1) := by decide +kernel
theorem dX4_addTruck_9 : decode cX4_addTruck 9 = .ok (.sipush 1000, 3) := by decide +kernel
theorem dX4_addTruck_12 : decode cX4_addTruck 12 = .ok (.if_icmp .gt 15, 3) := by decide +kernel
theorem dX4_addTruck_15 : decode cX4_addTruck 15 = .ok (.iload_n 2, 1) := by decide +kernel
theorem dX4_addTruck_16 : decode cX4_addTruck 16 = .ok (.bipush 100, 2) := by decide +kernel
theorem dX4_addTruck_18 : decode cX4_addTruck 18 = .ok (.sipush 9999, 3) := by decide +kernel
theorem dX4_addTruck_21 : decode cX4_addTruck 21 = .ok (.invokestatic 94, 3) := by decide +kernel
theorem dX4_addTruck_24 : decode cX4_addTruck 24 = .ok (.ifCond .ne 13, 3) := by decide +kernel
theorem dX4_addTruck_27 : decode cX4_addTruck 27 = .ok (.new 72, 3) := by decide +kernel
theorem dX4_addTruck_30 : decode cX4_addTruck 30 = .ok (.dup, 1) := by decide +kernel
theorem dX4_addTruck_31 : decode cX4_addTruck 31 = .ok (.ldc 243, 2) := by decide +kernel
theorem dX4_addTruck_33 : decode cX4_addTruck 33 = .ok (.invokespecial 76, 3) := by decide +kernel
theorem dX4_addTruck_36 : decode cX4_addTruck 36 = .ok (.athrow, 1) := by decide +kernel
theorem dX4_addTruck_37 : decode cX4_addTruck 37 = .ok (.aload_n 0, 1) := by decide +kernel
theorem dX4_addTruck_38 : decode cX4_addTruck 38 = .ok (.getfield 43, 3) := by decide +kernel
theorem dX4_addTruck_41 : decode cX4_addTruck 41 = .ok (.aload_n 0, 1) := by decide +kernel
theorem dX4_addTruck_42 : decode cX4_addTruck 42 = .ok (.getfield 29, 3) := by decide +kernel
theorem dX4_addTruck_45 : decode cX4_addTruck 45 = .ok (.arraylength, 1) := by decide +kernel
theorem dX4_addTruck_46 : decode cX4_addTruck 46 = .ok (.if_icmp .lt 13, 3) := by decide +kernel
theorem dX4_addTruck_49 : decode cX4_addTruck 49 = .ok (.new 79, 3) := by decide +kernel
theorem dX4_addTruck_52 : decode cX4_addTruck 52 = .ok (.dup, 1) := by decide +kernel
theorem dX4_addTruck_53 : decode cX4_addTruck 53 = .ok (.ldc 245, 2) := by decide +kernel
theorem dX4_addTruck_55 : decode cX4_addTruck 55 = .ok (.invokespecial 83, 3) := by decide +kernel
theorem dX4_addTruck_58 : decode cX4_addTruck 58 = .ok (.athrow, 1) := by decide +kernel
theorem dX4_addTruck_59 : decode cX4_addTruck 59 = .ok (.aload_n 0, 1) := by decide +kernel
theorem dX4_addTruck_60 : decode cX4_addTruck 60 = .ok (.getfield 43, 3) := by decide +kernel
theorem dX4_addTruck_63 : decode cX4_addTruck 63 = .ok (.istore 4, 2) := by decide +kernel
theorem dX4_addTruck_65 : decode cX4_addTruck 65 = .ok (.aload_n 0, 1) := by decide +kernel
theorem dX4_addTruck_66 : decode cX4_addTruck 66 = .ok (.getfield 29, 3) := by decide +kernel
theorem dX4_addTruck_69 : decode cX4_addTruck 69 = .ok (.iload 4, 2) := by decide +kernel
theorem dX4_addTruck_71 : decode cX4_addTruck 71 = .ok (.new 27, 3) := by decide +kernel
theorem dX4_addTruck_74 : decode cX4_addTruck 74 = .ok (.dup, 1) := by decide +kernel
theorem dX4_addTruck_75 : decode cX4_addTruck 75 = .ok (.iload_n 1, 1) := by decide +kernel
theorem dX4_addTruck_76 : decode cX4_addTruck 76 = .ok (.iload_n 2, 1) := by decide +kernel
theorem dX4_addTruck_77 : decode cX4_addTruck 77 = .ok (.iload_n 3, 1) := by decide +kernel
theorem dX4_addTruck_78 : decode cX4_addTruck 78 = .ok (.invokespecial 247, 3) := by decide +kernel
theorem dX4_addTruck_81 : decode cX4_addTruck 81 = .ok (.aastore, 1) := by decide +kernel
theorem dX4_addTruck_82 : decode cX4_addTruck 82 = .ok (.aload_n 0, 1) := by decide +kernel
theorem dX4_addTruck_83 : decode cX4_addTruck 83 = .ok (.iload 4, 2) := by decide +kernel
theorem dX4_addTruck_85 : decode cX4_addTruck 85 = .ok (.iconst 1, 1) := by decide +kernel
theorem dX4_addTruck_86 : decode cX4_addTruck 86 = .ok (.iadd, 1) := by decide +kernel
theorem dX4_addTruck_87 : decode cX4_addTruck 87 = .ok (.putfield 43, 3) := by decide +kernel
theorem dX4_addTruck_90 : decode cX4_addTruck 90 = .ok (.iload 4, 2) := by decide +kernel
theorem dX4_addTruck_92 : decode cX4_addTruck 92 = .ok (.ireturn, 1) := by decide +kernel
theorem dX4_load_0 : decode cX4_load 0 = .ok (.aload_n 0, 1) := by decide +kernel
theorem dX4_load_1 : decode cX4_load 1 = .ok (.iload_n 1, 1) := by decide +kernel
theorem dX4_load_2 : decode cX4_load 2 = .ok (.invokevirtual 145, 3) := by decide +kernel
theorem dX4_load_5 : decode cX4_load 5 = .ok (.astore_n 3, 1) := by decide +kernel
theorem dX4_load_6 : decode cX4_load 6 = .ok (.aload_n 0, 1) := by decide +kernel
theorem dX4_load_7 : decode cX4_load 7 = .ok (.iload_n 2, 1) := by decide +kernel
theorem dX4_load_8 : decode cX4_load 8 = .ok (.invokevirtual 250, 3) := by decide +kernel
theorem dX4_load_11 : decode cX4_load 11 = .ok (.astore 4, 2) := by decide +kernel
theorem dX4_load_13 : decode cX4_load 13 = .ok (.aload_n 3, 1) := by decide +kernel
theorem dX4_load_14 : decode cX4_load 14 = .ok (.getfield 152, 3) := by decide +kernel
theorem dX4_load_17 : decode cX4_load 17 = .ok (.bipush 115, 2) := by decide +kernel
theorem dX4_load_19 : decode cX4_load 19 = .ok (.if_icmp .ne 24, 3) := by decide +kernel
theorem dX4_load_22 : decode cX4_load 22 = .ok (.aload 4, 2) := by decide +kernel
theorem dX4_load_24 : decode cX4_load 24 = .ok (.getfield 182, 3) := by decide +kernel
theorem dX4_load_27 : decode cX4_load 27 = .ok (.aload_n 0, 1) := by decide +kernel
theorem dX4_load_28 : decode cX4_load 28 = .ok (.getfield 46, 3) := by decide +kernel
theorem dX4_load_31 : decode cX4_load 31 = .ok (.if_icmp .le 12, 3) := by decide +kernel
theorem dX4_load_34 : decode cX4_load 34 = .ok (.aload 4, 2) := by decide +kernel
theorem dX4_load_36 : decode cX4_load 36 = .ok (.aload_n 3, 1) := by decide +kernel
theorem dX4_load_37 : decode cX4_load 37 = .ok (.invokevirtual 254, 3) := by decide +kernel
theorem dX4_load_40 : decode cX4_load 40 = .ok (.ifCond .ne 14, 3) := by decide +kernel
theorem dX4_load_43 : decode cX4_load 43 = .ok (.new 79, 3) := by decide +kernel
theorem dX4_load_46 : decode cX4_load 46 = .ok (.dup, 1) := by decide +kernel
theorem dX4_load_47 : decode cX4_load 47 = .ok (.ldc_w 258, 3) := by decide +kernel
theorem dX4_load_50 : decode cX4_load 50 = .ok (.invokespecial 83, 3) := by decide +kernel
theorem dX4_load_53 : decode cX4_load 53 = .ok (.athrow, 1) := by decide +kernel
theorem dX4_load_54 : decode cX4_load 54 = .ok (.aload 4, 2) := by decide +kernel
theorem dX4_load_56 : decode cX4_load 56 = .ok (.getfield 260, 3) := by decide +kernel
theorem dX4_load_59 : decode cX4_load 59 = .ok (.ifCond .eq 21, 3) := by decide +kernel
theorem dX4_load_62 : decode cX4_load 62 = .ok (.aload_n 3, 1) := by decide +kernel
theorem dX4_load_63 : decode cX4_load 63 = .ok (.getfield 264, 3) := by decide +kernel
theorem dX4_load_66 : decode cX4_load 66 = .ok (.ifCond .ne 14, 3) := by decide +kernel
theorem dX4_load_69 : decode cX4_load 69 = .ok (.new 106, 3) := by decide +kernel
theorem dX4_load_72 : decode cX4_load 72 = .ok (.dup, 1) := by decide +kernel
theorem dX4_load_73 : decode cX4_load 73 = .ok (.ldc_w 267, 3) := by decide +kernel
theorem dX4_load_76 : decode cX4_load 76 = .ok (.invokespecial 110, 3) := by decide +kernel
theorem dX4_load_79 : decode cX4_load 79 = .ok (.athrow, 1) := by decide +kernel
theorem dX4_load_80 : decode cX4_load 80 = .ok (.aload 4, 2) := by decide +kernel
theorem dX4_load_82 : decode cX4_load 82 = .ok (.aload_n 3, 1) := by decide +kernel
theorem dX4_load_83 : decode cX4_load 83 = .ok (.invokevirtual 269, 3) := by decide +kernel
theorem dX4_load_86 : decode cX4_load 86 = .ok (.aload 4, 2) := by decide +kernel
theorem dX4_load_88 : decode cX4_load 88 = .ok (.getfield 273, 3) := by decide +kernel
theorem dX4_load_91 : decode cX4_load 91 = .ok (.ireturn, 1) := by decide +kernel
theorem dX4_lotOn_0 : decode cX4_lotOn 0 = .ok (.aload_n 0, 1) := by decide +kernel
theorem dX4_lotOn_1 : decode cX4_lotOn 1 = .ok (.iload_n 1, 1) := by decide +kernel
theorem dX4_lotOn_2 : decode cX4_lotOn 2 = .ok (.invokevirtual 250, 3) := by decide +kernel
theorem dX4_lotOn_5 : decode cX4_lotOn 5 = .ok (.getfield 276, 3) := by decide +kernel
theorem dX4_lotOn_8 : decode cX4_lotOn 8 = .ok (.astore_n 3, 1) := by decide +kernel
theorem dX4_lotOn_9 : decode cX4_lotOn 9 = .ok (.iload_n 2, 1) := by decide +kernel
theorem dX4_lotOn_10 : decode cX4_lotOn 10 = .ok (.ifCond .lt 15, 3) := by decide +kernel
theorem dX4_lotOn_13 : decode cX4_lotOn 13 = .ok (.iload_n 2, 1) := by decide +kernel
theorem dX4_lotOn_14 : decode cX4_lotOn 14 = .ok (.aload_n 3, 1) := by decide +kernel
theorem dX4_lotOn_15 : decode cX4_lotOn 15 = .ok (.arraylength, 1) := by decide +kernel
theorem dX4_lotOn_16 : decode cX4_lotOn 16 = .ok (.if_icmp .ge 9, 3) := by decide +kernel
theorem dX4_lotOn_19 : decode cX4_lotOn 19 = .ok (.aload_n 3, 1) := by decide +kernel
theorem dX4_lotOn_20 : decode cX4_lotOn 20 = .ok (.iload_n 2, 1) := by decide +kernel
theorem dX4_lotOn_21 : decode cX4_lotOn 21 = .ok (.aaload, 1) := by decide +kernel
theorem dX4_lotOn_22 : decode cX4_lotOn 22 = .ok (.ifnonnull 14, 3) := by decide +kernel
theorem dX4_lotOn_25 : decode cX4_lotOn 25 = .ok (.new 132, 3) := by decide +kernel
theorem dX4_lotOn_28 : decode cX4_lotOn 28 = .ok (.dup, 1) := by decide +kernel
theorem dX4_lotOn_29 : decode cX4_lotOn 29 = .ok (.ldc_w 279, 3) := by decide +kernel
theorem dX4_lotOn_32 : decode cX4_lotOn 32 = .ok (.invokespecial 136, 3) := by decide +kernel
theorem dX4_lotOn_35 : decode cX4_lotOn 35 = .ok (.athrow, 1) := by decide +kernel
theorem dX4_lotOn_36 : decode cX4_lotOn 36 = .ok (.aload_n 3, 1) := by decide +kernel
theorem dX4_lotOn_37 : decode cX4_lotOn 37 = .ok (.iload_n 2, 1) := by decide +kernel
theorem dX4_lotOn_38 : decode cX4_lotOn 38 = .ok (.aaload, 1) := by decide +kernel
theorem dX4_lotOn_39 : decode cX4_lotOn 39 = .ok (.getfield 281, 3) := by decide +kernel
theorem dX4_lotOn_42 : decode cX4_lotOn 42 = .ok (.ireturn, 1) := by decide +kernel
theorem dX4_income_0 : decode cX4_income 0 = .ok (.aload_n 0, 1) := by decide +kernel
theorem dX4_income_1 : decode cX4_income 1 = .ok (.getfield 64, 3) := by decide +kernel
theorem dX4_income_4 : decode cX4_income 4 = .ok (.lreturn, 1) := by decide +kernel
theorem dX4_incomeByLots_0 : decode cX4_incomeByLots 0 = .ok (.lconst 0, 1) := by decide +kernel
theorem dX4_incomeByLots_1 : decode cX4_incomeByLots 1 = .ok (.lstore_n 1, 1) := by decide +kernel
theorem dX4_incomeByLots_2 : decode cX4_incomeByLots 2 = .ok (.aload_n 0, 1) := by decide +kernel
theorem dX4_incomeByLots_3 : decode cX4_incomeByLots 3 = .ok (.getfield 17, 3) := by decide +kernel
theorem dX4_incomeByLots_6 : decode cX4_incomeByLots 6 = .ok (.astore_n 3, 1) := by decide +kernel
theorem dX4_incomeByLots_7 : decode cX4_incomeByLots 7 = .ok (.aload_n 3, 1) := by decide +kernel
theorem dX4_incomeByLots_8 : decode cX4_incomeByLots 8 = .ok (.arraylength, 1) := by decide +kernel
theorem dX4_incomeByLots_9 : decode cX4_incomeByLots 9 = .ok (.istore 4, 2) := by decide +kernel
theorem dX4_incomeByLots_11 : decode cX4_incomeByLots 11 = .ok (.iconst 0, 1) := by decide +kernel
theorem dX4_incomeByLots_12 : decode cX4_incomeByLots 12 = .ok (.istore 5, 2) := by decide +kernel
theorem dX4_incomeByLots_14 : decode cX4_incomeByLots 14 = .ok (.iload 5, 2) := by decide +kernel
theorem dX4_incomeByLots_16 : decode cX4_incomeByLots 16 = .ok (.iload 4, 2) := by decide +kernel
theorem dX4_incomeByLots_18 : decode cX4_incomeByLots 18 = .ok (.if_icmp .ge 29, 3) := by decide +kernel
theorem dX4_incomeByLots_21 : decode cX4_incomeByLots 21 = .ok (.aload_n 3, 1) := by decide +kernel
theorem dX4_incomeByLots_22 : decode cX4_incomeByLots 22 = .ok (.iload 5, 2) := by decide +kernel
theorem dX4_incomeByLots_24 : decode cX4_incomeByLots 24 = .ok (.aaload, 1) := by decide +kernel
theorem dX4_incomeByLots_25 : decode cX4_incomeByLots 25 = .ok (.astore 6, 2) := by decide +kernel
theorem dX4_incomeByLots_27 : decode cX4_incomeByLots 27 = .ok (.aload 6, 2) := by decide +kernel
theorem dX4_incomeByLots_29 : decode cX4_incomeByLots 29 = .ok (.ifnull 12, 3) := by decide +kernel
theorem dX4_incomeByLots_32 : decode cX4_incomeByLots 32 = .ok (.lload_n 1, 1) := by decide +kernel
theorem dX4_incomeByLots_33 : decode cX4_incomeByLots 33 = .ok (.aload 6, 2) := by decide +kernel
theorem dX4_incomeByLots_35 : decode cX4_incomeByLots 35 = .ok (.getfield 235, 3) := by decide +kernel
theorem dX4_incomeByLots_38 : decode cX4_incomeByLots 38 = .ok (.i2l, 1) := by decide +kernel
theorem dX4_incomeByLots_39 : decode cX4_incomeByLots 39 = .ok (.ladd, 1) := by decide +kernel
theorem dX4_incomeByLots_40 : decode cX4_incomeByLots 40 = .ok (.lstore_n 1, 1) := by decide +kernel
theorem dX4_incomeByLots_41 : decode cX4_incomeByLots 41 = .ok (.iinc 5 1, 3) := by decide +kernel
theorem dX4_incomeByLots_44 : decode cX4_incomeByLots 44 = .ok (.goto (-30), 3) := by decide +kernel
theorem dX4_incomeByLots_47 : decode cX4_incomeByLots 47 = .ok (.lload_n 1, 1) := by decide +kernel
theorem dX4_incomeByLots_48 : decode cX4_incomeByLots 48 = .ok (.lreturn, 1) := by decide +kernel
theorem dX4_spoiled_0 : decode cX4_spoiled 0 = .ok (.iconst 0, 1) := by decide +kernel
theorem dX4_spoiled_1 : decode cX4_spoiled 1 = .ok (.istore_n 1, 1) := by decide +kernel
theorem dX4_spoiled_2 : decode cX4_spoiled 2 = .ok (.aload_n 0, 1) := by decide +kernel
theorem dX4_spoiled_3 : decode cX4_spoiled 3 = .ok (.getfield 17, 3) := by decide +kernel
theorem dX4_spoiled_6 : decode cX4_spoiled 6 = .ok (.astore_n 2, 1) := by decide +kernel
theorem dX4_spoiled_7 : decode cX4_spoiled 7 = .ok (.aload_n 2, 1) := by decide +kernel
theorem dX4_spoiled_8 : decode cX4_spoiled 8 = .ok (.arraylength, 1) := by decide +kernel
theorem dX4_spoiled_9 : decode cX4_spoiled 9 = .ok (.istore_n 3, 1) := by decide +kernel
theorem dX4_spoiled_10 : decode cX4_spoiled 10 = .ok (.iconst 0, 1) := by decide +kernel
theorem dX4_spoiled_11 : decode cX4_spoiled 11 = .ok (.istore 4, 2) := by decide +kernel
theorem dX4_spoiled_13 : decode cX4_spoiled 13 = .ok (.iload 4, 2) := by decide +kernel
theorem dX4_spoiled_15 : decode cX4_spoiled 15 = .ok (.iload_n 3, 1) := by decide +kernel
theorem dX4_spoiled_16 : decode cX4_spoiled 16 = .ok (.if_icmp .ge 38, 3) := by decide +kernel
theorem dX4_spoiled_19 : decode cX4_spoiled 19 = .ok (.aload_n 2, 1) := by decide +kernel
theorem dX4_spoiled_20 : decode cX4_spoiled 20 = .ok (.iload 4, 2) := by decide +kernel
theorem dX4_spoiled_22 : decode cX4_spoiled 22 = .ok (.aaload, 1) := by decide +kernel
theorem dX4_spoiled_23 : decode cX4_spoiled 23 = .ok (.astore 5, 2) := by decide +kernel
theorem dX4_spoiled_25 : decode cX4_spoiled 25 = .ok (.aload 5, 2) := by decide +kernel
theorem dX4_spoiled_27 : decode cX4_spoiled 27 = .ok (.ifnull 21, 3) := by decide +kernel
theorem dX4_spoiled_30 : decode cX4_spoiled 30 = .ok (.aload 5, 2) := by decide +kernel
theorem dX4_spoiled_32 : decode cX4_spoiled 32 = .ok (.getfield 152, 3) := by decide +kernel
theorem dX4_spoiled_35 : decode cX4_spoiled 35 = .ok (.bipush 120, 2) := by decide +kernel
theorem dX4_spoiled_37 : decode cX4_spoiled 37 = .ok (.if_icmp .ne 11, 3) := by decide +kernel
theorem dX4_spoiled_40 : decode cX4_spoiled 40 = .ok (.iload_n 1, 1) := by decide +kernel
theorem dX4_spoiled_41 : decode cX4_spoiled 41 = .ok (.aload 5, 2) := by decide +kernel
theorem dX4_spoiled_43 : decode cX4_spoiled 43 = .ok (.getfield 149, 3) := by decide +kernel
theorem dX4_spoiled_46 : decode cX4_spoiled 46 = .ok (.iadd, 1) := by decide +kernel
theorem dX4_spoiled_47 : decode cX4_spoiled 47 = .ok (.istore_n 1, 1) := by decide +kernel
theorem dX4_spoiled_48 : decode cX4_spoiled 48 = .ok (.iinc 4 1, 3) := by decide +kernel
theorem dX4_spoiled_51 : decode cX4_spoiled 51 = .ok (.goto (-38), 3) := by decide +kernel
theorem dX4_spoiled_54 : decode cX4_spoiled 54 = .ok (.iload_n 1, 1) := by decide +kernel
theorem dX4_spoiled_55 : decode cX4_spoiled 55 = .ok (.ireturn, 1) := by decide +kernel
theorem dX4_soldShare_0 : decode cX4_soldShare 0 = .ok (.aload_n 0, 1) := by decide +kernel
theorem dX4_soldShare_1 : decode cX4_soldShare 1 = .ok (.invokevirtual 282, 3) := by decide +kernel
theorem dX4_soldShare_4 : decode cX4_soldShare 4 = .ok (.istore_n 1, 1) := by decide +kernel
theorem dX4_soldShare_5 : decode cX4_soldShare 5 = .ok (.iload_n 1, 1) := by decide +kernel
theorem dX4_soldShare_6 : decode cX4_soldShare 6 = .ok (.ifCond .ne 14, 3) := by decide +kernel
theorem dX4_soldShare_9 : decode cX4_soldShare 9 = .ok (.new 285, 3) := by decide +kernel
theorem dX4_soldShare_12 : decode cX4_soldShare 12 = .ok (.dup, 1) := by decide +kernel
theorem dX4_soldShare_13 : decode cX4_soldShare 13 = .ok (.ldc_w 287, 3) := by decide +kernel
theorem dX4_soldShare_16 : decode cX4_soldShare 16 = .ok (.invokespecial 289, 3) := by decide +kernel
theorem dX4_soldShare_19 : decode cX4_soldShare 19 = .ok (.athrow, 1) := by decide +kernel
theorem dX4_soldShare_20 : decode cX4_soldShare 20 = .ok (.aload_n 0, 1) := by decide +kernel
theorem dX4_soldShare_21 : decode cX4_soldShare 21 = .ok (.invokevirtual 290, 3) := by decide +kernel
theorem dX4_soldShare_24 : decode cX4_soldShare 24 = .ok (.i2f, 1) := by decide +kernel
theorem dX4_soldShare_25 : decode cX4_soldShare 25 = .ok (.iload_n 1, 1) := by decide +kernel
theorem dX4_soldShare_26 : decode cX4_soldShare 26 = .ok (.i2f, 1) := by decide +kernel
theorem dX4_soldShare_27 : decode cX4_soldShare 27 = .ok (.fdiv, 1) := by decide +kernel
theorem dX4_soldShare_28 : decode cX4_soldShare 28 = .ok (.freturn, 1) := by decide +kernel
theorem dX4_meanPrice_0 : decode cX4_meanPrice 0 = .ok (.aload_n 0, 1) := by decide +kernel
theorem dX4_meanPrice_1 : decode cX4_meanPrice 1 = .ok (.invokevirtual 293, 3) := by decide +kernel
theorem dX4_meanPrice_4 : decode cX4_meanPrice 4 = .ok (.dreturn, 1) := by decide +kernel
theorem dX4_meanBits_0 : decode cX4_meanBits 0 = .ok (.aload_n 0, 1) := by decide +kernel
theorem dX4_meanBits_1 : decode cX4_meanBits 1 = .ok (.invokevirtual 293, 3) := by decide +kernel
theorem dX4_meanBits_4 : decode cX4_meanBits 4 = .ok (.invokestatic 297, 3) := by decide +kernel
theorem dX4_meanBits_7 : decode cX4_meanBits 7 = .ok (.lreturn, 1) := by decide +kernel
theorem dX4_isSound_0 : decode cX4_isSound 0 = .ok (.aload_n 0, 1) := by decide +kernel
theorem dX4_isSound_1 : decode cX4_isSound 1 = .ok (.getfield 64, 3) := by decide +kernel
theorem dX4_isSound_4 : decode cX4_isSound 4 = .ok (.aload_n 0, 1) := by decide +kernel
theorem dX4_isSound_5 : decode cX4_isSound 5 = .ok (.invokevirtual 301, 3) := by decide +kernel
theorem dX4_isSound_8 : decode cX4_isSound 8 = .ok (.lcmp, 1) := by decide +kernel
theorem dX4_isSound_9 : decode cX4_isSound 9 = .ok (.ifCond .ne 21, 3) := by decide +kernel
theorem dX4_isSound_12 : decode cX4_isSound 12 = .ok (.aload_n 0, 1) := by decide +kernel
theorem dX4_isSound_13 : decode cX4_isSound 13 = .ok (.invokevirtual 305, 3) := by decide +kernel
theorem dX4_isSound_16 : decode cX4_isSound 16 = .ok (.ifCond .eq 14, 3) := by decide +kernel
theorem dX4_isSound_19 : decode cX4_isSound 19 = .ok (.aload_n 0, 1) := by decide +kernel
theorem dX4_isSound_20 : decode cX4_isSound 20 = .ok (.invokevirtual 308, 3) := by decide +kernel
theorem dX4_isSound_23 : decode cX4_isSound 23 = .ok (.ifCond .eq 7, 3) := by decide +kernel
theorem dX4_isSound_26 : decode cX4_isSound 26 = .ok (.iconst 1, 1) := by decide +kernel
theorem dX4_isSound_27 : decode cX4_isSound 27 = .ok (.goto 4, 3) := by decide +kernel
theorem dX4_isSound_30 : decode cX4_isSound 30 = .ok (.iconst 0, 1) := by decide +kernel
theorem dX4_isSound_31 : decode cX4_isSound 31 = .ok (.ireturn, 1) := by decide +kernel
theorem dX4_boatNumbered_0 : decode cX4_boatNumbered 0 = .ok (.iload_n 1, 1) := by decide +kernel
theorem dX4_boatNumbered_1 : decode cX4_boatNumbered 1 = .ok (.ifCond .lt 21, 3) := by decide +kernel
theorem dX4_boatNumbered_4 : decode cX4_boatNumbered 4 = .ok (.iload_n 1, 1) := by decide +kernel
theorem dX4_boatNumbered_5 : decode cX4_boatNumbered 5 = .ok (.aload_n 0, 1) := by decide +kernel
theorem dX4_boatNumbered_6 : decode cX4_boatNumbered 6 = .ok (.getfield 11, 3) := by decide +kernel
theorem dX4_boatNumbered_9 : decode cX4_boatNumbered 9 = .ok (.arraylength, 1) := by decide +kernel
theorem dX4_boatNumbered_10 : decode cX4_boatNumbered 10 = .ok (.if_icmp .ge 12, 3) := by decide +kernel
theorem dX4_boatNumbered_13 : decode cX4_boatNumbered 13 = .ok (.aload_n 0, 1) := by decide +kernel
theorem dX4_boatNumbered_14 : decode cX4_boatNumbered 14 = .ok (.getfield 11, 3) := by decide +kernel
theorem dX4_boatNumbered_17 : decode cX4_boatNumbered 17 = .ok (.iload_n 1, 1) := by decide +kernel
theorem dX4_boatNumbered_18 : decode cX4_boatNumbered 18 = .ok (.aaload, 1) := by decide +kernel
theorem dX4_boatNumbered_19 : decode cX4_boatNumbered 19 = .ok (.ifnonnull 14, 3) := by decide +kernel
theorem dX4_boatNumbered_22 : decode cX4_boatNumbered 22 = .ok (.new 311, 3) := by decide +kernel
theorem dX4_boatNumbered_25 : decode cX4_boatNumbered 25 = .ok (.dup, 1) := by decide +kernel
theorem dX4_boatNumbered_26 : decode cX4_boatNumbered 26 = .ok (.ldc_w 313, 3) := by decide +kernel
theorem dX4_boatNumbered_29 : decode cX4_boatNumbered 29 = .ok (.invokespecial 315, 3) := by decide +kernel
theorem dX4_boatNumbered_32 : decode cX4_boatNumbered 32 = .ok (.athrow, 1) := by decide +kernel
theorem dX4_boatNumbered_33 : decode cX4_boatNumbered 33 = .ok (.aload_n 0, 1) := by decide +kernel
theorem dX4_boatNumbered_34 : decode cX4_boatNumbered 34 = .ok (.getfield 11, 3) := by decide +kernel
theorem dX4_boatNumbered_37 : decode cX4_boatNumbered 37 = .ok (.iload_n 1, 1) := by decide +kernel
theorem dX4_boatNumbered_38 : decode cX4_boatNumbered 38 = .ok (.aaload, 1) := by decide +kernel
theorem dX4_boatNumbered_39 : decode cX4_boatNumbered 39 = .ok (.areturn, 1) := by decide +kernel
theorem dX4_lotNumbered_0 : decode cX4_lotNumbered 0 = .ok (.iload_n 1, 1) := by decide +kernel
theorem dX4_lotNumbered_1 : decode cX4_lotNumbered 1 = .ok (.ifCond .lt 21, 3) := by decide +kernel
theorem dX4_lotNumbered_4 : decode cX4_lotNumbered 4 = .ok (.iload_n 1, 1) := by decide +kernel
theorem dX4_lotNumbered_5 : decode cX4_lotNumbered 5 = .ok (.aload_n 0, 1) := by decide +kernel
theorem dX4_lotNumbered_6 : decode cX4_lotNumbered 6 = .ok (.getfield 17, 3) := by decide +kernel
theorem dX4_lotNumbered_9 : decode cX4_lotNumbered 9 = .ok (.arraylength, 1) := by decide +kernel
theorem dX4_lotNumbered_10 : decode cX4_lotNumbered 10 = .ok (.if_icmp .ge 12, 3) := by decide +kernel
theorem dX4_lotNumbered_13 : decode cX4_lotNumbered 13 = .ok (.aload_n 0, 1) := by decide +kernel
theorem dX4_lotNumbered_14 : decode cX4_lotNumbered 14 = .ok (.getfield 17, 3) := by decide +kernel
theorem dX4_lotNumbered_17 : decode cX4_lotNumbered 17 = .ok (.iload_n 1, 1) := by decide +kernel
theorem dX4_lotNumbered_18 : decode cX4_lotNumbered 18 = .ok (.aaload, 1) := by decide +kernel
theorem dX4_lotNumbered_19 : decode cX4_lotNumbered 19 = .ok (.ifnonnull 14, 3) := by decide +kernel
theorem dX4_lotNumbered_22 : decode cX4_lotNumbered 22 = .ok (.new 132, 3) := by decide +kernel
theorem dX4_lotNumbered_25 : decode cX4_lotNumbered 25 = .ok (.dup, 1) := by decide +kernel
theorem dX4_lotNumbered_26 : decode cX4_lotNumbered 26 = .ok (.ldc_w 316, 3) := by decide +kernel
theorem dX4_lotNumbered_29 : decode cX4_lotNumbered 29 = .ok (.invokespecial 136, 3) := by decide +kernel
theorem dX4_lotNumbered_32 : decode cX4_lotNumbered 32 = .ok (.athrow, 1) := by decide +kernel
theorem dX4_lotNumbered_33 : decode cX4_lotNumbered 33 = .ok (.aload_n 0, 1) := by decide +kernel
theorem dX4_lotNumbered_34 : decode cX4_lotNumbered 34 = .ok (.getfield 17, 3) := by decide +kernel
theorem dX4_lotNumbered_37 : decode cX4_lotNumbered 37 = .ok (.iload_n 1, 1) := by decide +kernel
theorem dX4_lotNumbered_38 : decode cX4_lotNumbered 38 = .ok (.aaload, 1) := by decide +kernel
theorem dX4_lotNumbered_39 : decode cX4_lotNumbered 39 = .ok (.areturn, 1) := by decide +kernel
theorem dX4_lotForSale_0 : decode cX4_lotForSale 0 = .ok (.aload_n 0, 1) := by decide +kernel
theorem dX4_lotForSale_1 : decode cX4_lotForSale 1 = .ok (.iload_n 1, 1) := by decide +kernel
theorem dX4_lotForSale_2 : decode cX4_lotForSale 2 = .ok (.invokevirtual 145, 3) := by decide +kernel
theorem dX4_lotForSale_5 : decode cX4_lotForSale 5 = .ok (.astore_n 2, 1) := by decide +kernel
theorem dX4_lotForSale_6 : decode cX4_lotForSale 6 = .ok (.aload_n 2, 1) := by decide +kernel
theorem dX4_lotForSale_7 : decode cX4_lotForSale 7 = .ok (.getfield 152, 3) := by decide +kernel
theorem dX4_lotForSale_10 : decode cX4_lotForSale 10 = .ok (.bipush 102, 2) := by decide +kernel
theorem dX4_lotForSale_12 : decode cX4_lotForSale 12 = .ok (.if_icmp .eq 14, 3) := by decide +kernel
theorem dX4_lotForSale_15 : decode cX4_lotForSale 15 = .ok (.new 79, 3) := by decide +kernel
theorem dX4_lotForSale_18 : decode cX4_lotForSale 18 = .ok (.dup, 1) := by decide +kernel
theorem dX4_lotForSale_19 : decode cX4_lotForSale 19 = .ok (.ldc_w 318, 3) := by decide +kernel
theorem dX4_lotForSale_22 : decode cX4_lotForSale 22 = .ok (.invokespecial 83, 3) := by decide +kernel
theorem dX4_lotForSale_25 : decode cX4_lotForSale 25 = .ok (.athrow, 1) := by decide +kernel
theorem dX4_lotForSale_26 : decode cX4_lotForSale 26 = .ok (.aload_n 2, 1) := by decide +kernel
theorem dX4_lotForSale_27 : decode cX4_lotForSale 27 = .ok (.areturn, 1) := by decide +kernel
theorem dX4_buyerNumbered_0 : decode cX4_buyerNumbered 0 = .ok (.iload_n 1, 1) := by decide +kernel
theorem dX4_buyerNumbered_1 : decode cX4_buyerNumbered 1 = .ok (.ifCond .lt 21, 3) := by decide +kernel
theorem dX4_buyerNumbered_4 : decode cX4_buyerNumbered 4 = .ok (.iload_n 1, 1) := by decide +kernel
theorem dX4_buyerNumbered_5 : decode cX4_buyerNumbered 5 = .ok (.aload_n 0, 1) := by decide +kernel
theorem dX4_buyerNumbered_6 : decode cX4_buyerNumbered 6 = .ok (.getfield 23, 3) := by decide +kernel
theorem dX4_buyerNumbered_9 : decode cX4_buyerNumbered 9 = .ok (.arraylength, 1) := by decide +kernel
theorem dX4_buyerNumbered_10 : decode cX4_buyerNumbered 10 = .ok (.if_icmp .ge 12, 3) := by decide +kernel
theorem dX4_buyerNumbered_13 : decode cX4_buyerNumbered 13 = .ok (.aload_n 0, 1) := by decide +kernel
theorem dX4_buyerNumbered_14 : decode cX4_buyerNumbered 14 = .ok (.getfield 23, 3) := by decide +kernel
theorem dX4_buyerNumbered_17 : decode cX4_buyerNumbered 17 = .ok (.iload_n 1, 1) := by decide +kernel
theorem dX4_buyerNumbered_18 : decode cX4_buyerNumbered 18 = .ok (.aaload, 1) := by decide +kernel
theorem dX4_buyerNumbered_19 : decode cX4_buyerNumbered 19 = .ok (.ifnonnull 14, 3) := by decide +kernel
theorem dX4_buyerNumbered_22 : decode cX4_buyerNumbered 22 = .ok (.new 311, 3) := by decide +kernel
theorem dX4_buyerNumbered_25 : decode cX4_buyerNumbered 25 = .ok (.dup, 1) := by decide +kernel
theorem dX4_buyerNumbered_26 : decode cX4_buyerNumbered 26 = .ok (.ldc_w 320, 3) := by decide +kernel
theorem dX4_buyerNumbered_29 : decode cX4_buyerNumbered 29 = .ok (.invokespecial 315, 3) := by decide +kernel
theorem dX4_buyerNumbered_32 : decode cX4_buyerNumbered 32 = .ok (.athrow, 1) := by decide +kernel
theorem dX4_buyerNumbered_33 : decode cX4_buyerNumbered 33 = .ok (.aload_n 0, 1) := by decide +kernel
theorem dX4_buyerNumbered_34 : decode cX4_buyerNumbered 34 = .ok (.getfield 23, 3) := by decide +kernel
theorem dX4_buyerNumbered_37 : decode cX4_buyerNumbered 37 = .ok (.iload_n 1, 1) := by decide +kernel
theorem dX4_buyerNumbered_38 : decode cX4_buyerNumbered 38 = .ok (.aaload, 1) := by decide +kernel
theorem dX4_buyerNumbered_39 : decode cX4_buyerNumbered 39 = .ok (.areturn, 1) := by decide +kernel
theorem dX4_truckNumbered_0 : decode cX4_truckNumbered 0 = .ok (.iload_n 1, 1) := by decide +kernel
theorem dX4_truckNumbered_1 : decode cX4_truckNumbered 1 = .ok (.ifCond .lt 21, 3) := by decide +kernel
theorem dX4_truckNumbered_4 : decode cX4_truckNumbered 4 = .ok (.iload_n 1, 1) := by decide +kernel
theorem dX4_truckNumbered_5 : decode cX4_truckNumbered 5 = .ok (.aload_n 0, 1) := by decide +kernel
theorem dX4_truckNumbered_6 : decode cX4_truckNumbered 6 = .ok (.getfield 29, 3) := by decide +kernel
theorem dX4_truckNumbered_9 : decode cX4_truckNumbered 9 = .ok (.arraylength, 1) := by decide +kernel
theorem dX4_truckNumbered_10 : decode cX4_truckNumbered 10 = .ok (.if_icmp .ge 12, 3) := by decide +kernel
theorem dX4_truckNumbered_13 : decode cX4_truckNumbered 13 = .ok (.aload_n 0, 1) := by decide +kernel
theorem dX4_truckNumbered_14 : decode cX4_truckNumbered 14 = .ok (.getfield 29, 3) := by decide +kernel
theorem dX4_truckNumbered_17 : decode cX4_truckNumbered 17 = .ok (.iload_n 1, 1) := by decide +kernel
theorem dX4_truckNumbered_18 : decode cX4_truckNumbered 18 = .ok (.aaload, 1) := by decide +kernel
theorem dX4_truckNumbered_19 : decode cX4_truckNumbered 19 = .ok (.ifnonnull 14, 3) := by decide +kernel
theorem dX4_truckNumbered_22 : decode cX4_truckNumbered 22 = .ok (.new 311, 3) := by decide +kernel
theorem dX4_truckNumbered_25 : decode cX4_truckNumbered 25 = .ok (.dup, 1) := by decide +kernel
theorem dX4_truckNumbered_26 : decode cX4_truckNumbered 26 = .ok (.ldc_w 322, 3) := by decide +kernel
theorem dX4_truckNumbered_29 : decode cX4_truckNumbered 29 = .ok (.invokespecial 315, 3) := by decide +kernel
theorem dX4_truckNumbered_32 : decode cX4_truckNumbered 32 = .ok (.athrow, 1) := by decide +kernel
theorem dX4_truckNumbered_33 : decode cX4_truckNumbered 33 = .ok (.aload_n 0, 1) := by decide +kernel
theorem dX4_truckNumbered_34 : decode cX4_truckNumbered 34 = .ok (.getfield 29, 3) := by decide +kernel
theorem dX4_truckNumbered_37 : decode cX4_truckNumbered 37 = .ok (.iload_n 1, 1) := by decide +kernel
theorem dX4_truckNumbered_38 : decode cX4_truckNumbered 38 = .ok (.aaload, 1) := by decide +kernel
theorem dX4_truckNumbered_39 : decode cX4_truckNumbered 39 = .ok (.areturn, 1) := by decide +kernel
theorem dX4_checkSpecies_0 : decode cX4_checkSpecies 0 = .ok (.iload_n 0, 1) := by decide +kernel
theorem dX4_checkSpecies_1 : decode cX4_checkSpecies 1 = .ok (.invokestatic 91, 3) := by decide +kernel
theorem dX4_checkSpecies_4 : decode cX4_checkSpecies 4 = .ok (.ifCond .ne 14, 3) := by decide +kernel
theorem dX4_checkSpecies_7 : decode cX4_checkSpecies 7 = .ok (.new 72, 3) := by decide +kernel
theorem dX4_checkSpecies_10 : decode cX4_checkSpecies 10 = .ok (.dup, 1) := by decide +kernel
theorem dX4_checkSpecies_11 : decode cX4_checkSpecies 11 = .ok (.ldc_w 324, 3) := by decide +kernel
theorem dX4_checkSpecies_14 : decode cX4_checkSpecies 14 = .ok (.invokespecial 76, 3) := by decide +kernel
theorem dX4_checkSpecies_17 : decode cX4_checkSpecies 17 = .ok (.athrow, 1) := by decide +kernel
theorem dX4_checkSpecies_18 : decode cX4_checkSpecies 18 = .ok (.return_, 1) := by decide +kernel
theorem dX4_isSpecies_0 : decode cX4_isSpecies 0 = .ok (.iload_n 0, 1) := by decide +kernel
theorem dX4_isSpecies_1 : decode cX4_isSpecies 1 = .ok (.iconst 0, 1) := by decide +kernel
theorem dX4_isSpecies_2 : decode cX4_isSpecies 2 = .ok (.iconst 3, 1) := by decide +kernel
theorem dX4_isSpecies_3 : decode cX4_isSpecies 3 = .ok (.invokestatic 94, 3) := by decide +kernel
theorem dX4_isSpecies_6 : decode cX4_isSpecies 6 = .ok (.ireturn, 1) := by decide +kernel
theorem dX4_isQuota_0 : decode cX4_isQuota 0 = .ok (.iload_n 0, 1) := by decide +kernel
theorem dX4_isQuota_1 : decode cX4_isQuota 1 = .ok (.iconst 0, 1) := by decide +kernel
theorem dX4_isQuota_2 : decode cX4_isQuota 2 = .ok (.sipush 9999, 3) := by decide +kernel
theorem dX4_isQuota_5 : decode cX4_isQuota 5 = .ok (.invokestatic 94, 3) := by decide +kernel
theorem dX4_isQuota_8 : decode cX4_isQuota 8 = .ok (.ireturn, 1) := by decide +kernel
theorem dX4_isWithin_0 : decode cX4_isWithin 0 = .ok (.iload_n 0, 1) := by decide +kernel
theorem dX4_isWithin_1 : decode cX4_isWithin 1 = .ok (.iload_n 1, 1) := by decide +kernel
theorem dX4_isWithin_2 : decode cX4_isWithin 2 = .ok (.if_icmp .lt 12, 3) := by decide +kernel
theorem dX4_isWithin_5 : decode cX4_isWithin 5 = .ok (.iload_n 0, 1) := by decide +kernel
theorem dX4_isWithin_6 : decode cX4_isWithin 6 = .ok (.iload_n 2, 1) := by decide +kernel
theorem dX4_isWithin_7 : decode cX4_isWithin 7 = .ok (.if_icmp .gt 7, 3) := by decide +kernel
theorem dX4_isWithin_10 : decode cX4_isWithin 10 = .ok (.iconst 1, 1) := by decide +kernel
theorem dX4_isWithin_11 : decode cX4_isWithin 11 = .ok (.goto 4, 3) := by decide +kernel
theorem dX4_isWithin_14 : decode cX4_isWithin 14 = .ok (.iconst 0, 1) := by decide +kernel
theorem dX4_isWithin_15 : decode cX4_isWithin 15 = .ok (.ireturn, 1) := by decide +kernel
theorem dX4_priceOnClock_0 : decode cX4_priceOnClock 0 = .ok (.aload_n 0, 1) := by decide +kernel
theorem dX4_priceOnClock_1 : decode cX4_priceOnClock 1 = .ok (.aload_n 1, 1) := by decide +kernel
theorem dX4_priceOnClock_2 : decode cX4_priceOnClock 2 = .ok (.invokevirtual 326, 3) := by decide +kernel
theorem dX4_priceOnClock_5 : decode cX4_priceOnClock 5 = .ok (.istore_n 2, 1) := by decide +kernel
theorem dX4_priceOnClock_6 : decode cX4_priceOnClock 6 = .ok (.iconst 0, 1) := by decide +kernel
theorem dX4_priceOnClock_7 : decode cX4_priceOnClock 7 = .ok (.istore_n 3, 1) := by decide +kernel
theorem dX4_priceOnClock_8 : decode cX4_priceOnClock 8 = .ok (.iload_n 3, 1) := by decide +kernel
theorem dX4_priceOnClock_9 : decode cX4_priceOnClock 9 = .ok (.sipush 9999, 3) := by decide +kernel
theorem dX4_priceOnClock_12 : decode cX4_priceOnClock 12 = .ok (.if_icmp .gt 52, 3) := by decide +kernel
theorem dX4_priceOnClock_15 : decode cX4_priceOnClock 15 = .ok (.aload_n 0, 1) := by decide +kernel
theorem dX4_priceOnClock_16 : decode cX4_priceOnClock 16 = .ok (.getfield 55, 3) := by decide +kernel
theorem dX4_priceOnClock_19 : decode cX4_priceOnClock 19 = .ok (.iload_n 3, 1) := by decide +kernel
theorem dX4_priceOnClock_20 : decode cX4_priceOnClock 20 = .ok (.aload_n 0, 1) := by decide +kernel
theorem dX4_priceOnClock_21 : decode cX4_priceOnClock 21 = .ok (.getfield 58, 3) := by decide +kernel
theorem dX4_priceOnClock_24 : decode cX4_priceOnClock 24 = .ok (.imul, 1) := by decide +kernel
theorem dX4_priceOnClock_25 : decode cX4_priceOnClock 25 = .ok (.isub, 1) := by decide +kernel
theorem dX4_priceOnClock_26 : decode cX4_priceOnClock 26 = .ok (.istore 4, 2) := by decide +kernel
theorem dX4_priceOnClock_28 : decode cX4_priceOnClock 28 = .ok (.iload 4, 2) := by decide +kernel
theorem dX4_priceOnClock_30 : decode cX4_priceOnClock 30 = .ok (.aload_n 0, 1) := by decide +kernel
theorem dX4_priceOnClock_31 : decode cX4_priceOnClock 31 = .ok (.getfield 61, 3) := by decide +kernel
theorem dX4_priceOnClock_34 : decode cX4_priceOnClock 34 = .ok (.if_icmp .ge 5, 3) := by decide +kernel
theorem dX4_priceOnClock_37 : decode cX4_priceOnClock 37 = .ok (.iconst (-1), 1) := by decide +kernel
theorem dX4_priceOnClock_38 : decode cX4_priceOnClock 38 = .ok (.ireturn, 1) := by decide +kernel
theorem dX4_priceOnClock_39 : decode cX4_priceOnClock 39 = .ok (.iload 4, 2) := by decide +kernel
theorem dX4_priceOnClock_41 : decode cX4_priceOnClock 41 = .ok (.iload_n 2, 1) := by decide +kernel
theorem dX4_priceOnClock_42 : decode cX4_priceOnClock 42 = .ok (.if_icmp .gt 16, 3) := by decide +kernel
theorem dX4_priceOnClock_45 : decode cX4_priceOnClock 45 = .ok (.aload_n 0, 1) := by decide +kernel
theorem dX4_priceOnClock_46 : decode cX4_priceOnClock 46 = .ok (.aload_n 1, 1) := by decide +kernel
theorem dX4_priceOnClock_47 : decode cX4_priceOnClock 47 = .ok (.iload 4, 2) := by decide +kernel
theorem dX4_priceOnClock_49 : decode cX4_priceOnClock 49 = .ok (.invokevirtual 225, 3) := by decide +kernel
theorem dX4_priceOnClock_52 : decode cX4_priceOnClock 52 = .ok (.ifnull 6, 3) := by decide +kernel
theorem dX4_priceOnClock_55 : decode cX4_priceOnClock 55 = .ok (.iload 4, 2) := by decide +kernel
theorem dX4_priceOnClock_57 : decode cX4_priceOnClock 57 = .ok (.ireturn, 1) := by decide +kernel
theorem dX4_priceOnClock_58 : decode cX4_priceOnClock 58 = .ok (.iinc 3 1, 3) := by decide +kernel
theorem dX4_priceOnClock_61 : decode cX4_priceOnClock 61 = .ok (.goto (-53), 3) := by decide +kernel
theorem dX4_priceOnClock_64 : decode cX4_priceOnClock 64 = .ok (.iconst (-1), 1) := by decide +kernel
theorem dX4_priceOnClock_65 : decode cX4_priceOnClock 65 = .ok (.ireturn, 1) := by decide +kernel
theorem dX4_greatestOfferFor_0 : decode cX4_greatestOfferFor 0 = .ok (.iconst (-1), 1) := by decide +kernel
theorem dX4_greatestOfferFor_1 : decode cX4_greatestOfferFor 1 = .ok (.istore_n 2, 1) := by decide +kernel
theorem dX4_greatestOfferFor_2 : decode cX4_greatestOfferFor 2 = .ok (.aload_n 0, 1) := by decide +kernel
theorem dX4_greatestOfferFor_3 : decode cX4_greatestOfferFor 3 = .ok (.getfield 23, 3) := by decide +kernel
theorem dX4_greatestOfferFor_6 : decode cX4_greatestOfferFor 6 = .ok (.astore_n 3, 1) := by decide +kernel
theorem dX4_greatestOfferFor_7 : decode cX4_greatestOfferFor 7 = .ok (.aload_n 3, 1) := by decide +kernel
theorem dX4_greatestOfferFor_8 : decode cX4_greatestOfferFor 8 = .ok (.arraylength, 1) := by decide +kernel
theorem dX4_greatestOfferFor_9 : decode cX4_greatestOfferFor 9 = .ok (.istore 4, 2) := by decide +kernel
theorem dX4_greatestOfferFor_11 : decode cX4_greatestOfferFor 11 = .ok (.iconst 0, 1) := by decide +kernel
theorem dX4_greatestOfferFor_12 : decode cX4_greatestOfferFor 12 = .ok (.istore 5, 2) := by decide +kernel
theorem dX4_greatestOfferFor_14 : decode cX4_greatestOfferFor 14 = .ok (.iload 5, 2) := by decide +kernel
theorem dX4_greatestOfferFor_16 : decode cX4_greatestOfferFor 16 = .ok (.iload 4, 2) := by decide +kernel
theorem dX4_greatestOfferFor_18 : decode cX4_greatestOfferFor 18 = .ok (.if_icmp .ge 31, 3) := by decide +kernel
theorem dX4_greatestOfferFor_21 : decode cX4_greatestOfferFor 21 = .ok (.aload_n 3, 1) := by decide +kernel
theorem dX4_greatestOfferFor_22 : decode cX4_greatestOfferFor 22 = .ok (.iload 5, 2) := by decide +kernel
theorem dX4_greatestOfferFor_24 : decode cX4_greatestOfferFor 24 = .ok (.aaload, 1) := by decide +kernel
theorem dX4_greatestOfferFor_25 : decode cX4_greatestOfferFor 25 = .ok (.astore 6, 2) := by decide +kernel
theorem dX4_greatestOfferFor_27 : decode cX4_greatestOfferFor 27 = .ok (.aload 6, 2) := by decide +kernel
theorem dX4_greatestOfferFor_29 : decode cX4_greatestOfferFor 29 = .ok (.ifnull 14, 3) := by decide +kernel
theorem dX4_greatestOfferFor_32 : decode cX4_greatestOfferFor 32 = .ok (.iload_n 2, 1) := by decide +kernel
theorem dX4_greatestOfferFor_33 : decode cX4_greatestOfferFor 33 = .ok (.aload 6, 2) := by decide +kernel
theorem dX4_greatestOfferFor_35 : decode cX4_greatestOfferFor 35 = .ok (.aload_n 1, 1) := by decide +kernel
theorem dX4_greatestOfferFor_36 : decode cX4_greatestOfferFor 36 = .ok (.invokevirtual 210, 3) := by decide +kernel
theorem dX4_greatestOfferFor_39 : decode cX4_greatestOfferFor 39 = .ok (.invokestatic 329, 3) := by decide +kernel
theorem dX4_greatestOfferFor_42 : decode cX4_greatestOfferFor 42 = .ok (.istore_n 2, 1) := by decide +kernel
theorem dX4_greatestOfferFor_43 : decode cX4_greatestOfferFor 43 = .ok (.iinc 5 1, 3) := by decide +kernel
theorem dX4_greatestOfferFor_46 : decode cX4_greatestOfferFor 46 = .ok (.goto (-32), 3) := by decide +kernel
theorem dX4_greatestOfferFor_49 : decode cX4_greatestOfferFor 49 = .ok (.iload_n 2, 1) := by decide +kernel
theorem dX4_greatestOfferFor_50 : decode cX4_greatestOfferFor 50 = .ok (.ireturn, 1) := by decide +kernel
theorem dX4_bestTaker_0 : decode cX4_bestTaker 0 = .ok (.aconst_null, 1) := by decide +kernel
theorem dX4_bestTaker_1 : decode cX4_bestTaker 1 = .ok (.astore_n 3, 1) := by decide +kernel
theorem dX4_bestTaker_2 : decode cX4_bestTaker 2 = .ok (.iconst (-1), 1) := by decide +kernel
theorem dX4_bestTaker_3 : decode cX4_bestTaker 3 = .ok (.istore 4, 2) := by decide +kernel
theorem dX4_bestTaker_5 : decode cX4_bestTaker 5 = .ok (.aload_n 0, 1) := by decide +kernel
theorem dX4_bestTaker_6 : decode cX4_bestTaker 6 = .ok (.getfield 23, 3) := by decide +kernel
theorem dX4_bestTaker_9 : decode cX4_bestTaker 9 = .ok (.astore 5, 2) := by decide +kernel
theorem dX4_bestTaker_11 : decode cX4_bestTaker 11 = .ok (.aload 5, 2) := by decide +kernel
theorem dX4_bestTaker_13 : decode cX4_bestTaker 13 = .ok (.arraylength, 1) := by decide +kernel
theorem dX4_bestTaker_14 : decode cX4_bestTaker 14 = .ok (.istore 6, 2) := by decide +kernel
theorem dX4_bestTaker_16 : decode cX4_bestTaker 16 = .ok (.iconst 0, 1) := by decide +kernel
theorem dX4_bestTaker_17 : decode cX4_bestTaker 17 = .ok (.istore 7, 2) := by decide +kernel
theorem dX4_bestTaker_19 : decode cX4_bestTaker 19 = .ok (.iload 7, 2) := by decide +kernel
theorem dX4_bestTaker_21 : decode cX4_bestTaker 21 = .ok (.iload 6, 2) := by decide +kernel
theorem dX4_bestTaker_23 : decode cX4_bestTaker 23 = .ok (.if_icmp .ge 63, 3) := by decide +kernel
theorem dX4_bestTaker_26 : decode cX4_bestTaker 26 = .ok (.aload 5, 2) := by decide +kernel
theorem dX4_bestTaker_28 : decode cX4_bestTaker 28 = .ok (.iload 7, 2) := by decide +kernel
theorem dX4_bestTaker_30 : decode cX4_bestTaker 30 = .ok (.aaload, 1) := by decide +kernel
theorem dX4_bestTaker_31 : decode cX4_bestTaker 31 = .ok (.astore 8, 2) := by decide +kernel
theorem dX4_bestTaker_33 : decode cX4_bestTaker 33 = .ok (.aload 8, 2) := by decide +kernel
theorem dX4_bestTaker_35 : decode cX4_bestTaker 35 = .ok (.ifnull 45, 3) := by decide +kernel
theorem dX4_bestTaker_38 : decode cX4_bestTaker 38 = .ok (.aload 8, 2) := by decide +kernel
theorem dX4_bestTaker_40 : decode cX4_bestTaker 40 = .ok (.getfield 205, 3) := by decide +kernel
theorem dX4_bestTaker_43 : decode cX4_bestTaker 43 = .ok (.iload_n 2, 1) := by decide +kernel
theorem dX4_bestTaker_44 : decode cX4_bestTaker 44 = .ok (.aload_n 1, 1) := by decide +kernel
theorem dX4_bestTaker_45 : decode cX4_bestTaker 45 = .ok (.getfield 149, 3) := by decide +kernel
theorem dX4_bestTaker_48 : decode cX4_bestTaker 48 = .ok (.imul, 1) := by decide +kernel
theorem dX4_bestTaker_49 : decode cX4_bestTaker 49 = .ok (.if_icmp .lt 31, 3) := by decide +kernel
theorem dX4_bestTaker_52 : decode cX4_bestTaker 52 = .ok (.aload 8, 2) := by decide +kernel
theorem dX4_bestTaker_54 : decode cX4_bestTaker 54 = .ok (.aload_n 1, 1) := by decide +kernel
theorem dX4_bestTaker_55 : decode cX4_bestTaker 55 = .ok (.invokevirtual 210, 3) := by decide +kernel
theorem dX4_bestTaker_58 : decode cX4_bestTaker 58 = .ok (.istore 9, 2) := by decide +kernel
theorem dX4_bestTaker_60 : decode cX4_bestTaker 60 = .ok (.iload 9, 2) := by decide +kernel
theorem dX4_bestTaker_62 : decode cX4_bestTaker 62 = .ok (.iload_n 2, 1) := by decide +kernel
theorem dX4_bestTaker_63 : decode cX4_bestTaker 63 = .ok (.if_icmp .lt 17, 3) := by decide +kernel
theorem dX4_bestTaker_66 : decode cX4_bestTaker 66 = .ok (.iload 9, 2) := by decide +kernel
theorem dX4_bestTaker_68 : decode cX4_bestTaker 68 = .ok (.iload 4, 2) := by decide +kernel
theorem dX4_bestTaker_70 : decode cX4_bestTaker 70 = .ok (.if_icmp .le 10, 3) := by decide +kernel
theorem dX4_bestTaker_73 : decode cX4_bestTaker 73 = .ok (.aload 8, 2) := by decide +kernel
theorem dX4_bestTaker_75 : decode cX4_bestTaker 75 = .ok (.astore_n 3, 1) := by decide +kernel
theorem dX4_bestTaker_76 : decode cX4_bestTaker 76 = .ok (.iload 9, 2) := by decide +kernel
theorem dX4_bestTaker_78 : decode cX4_bestTaker 78 = .ok (.istore 4, 2) := by decide +kernel
theorem dX4_bestTaker_80 : decode cX4_bestTaker 80 = .ok (.iinc 7 1, 3) := by decide +kernel
theorem dX4_bestTaker_83 : decode cX4_bestTaker 83 = .ok (.goto (-64), 3) := by decide +kernel
theorem dX4_bestTaker_86 : decode cX4_bestTaker 86 = .ok (.aload_n 3, 1) := by decide +kernel
theorem dX4_bestTaker_87 : decode cX4_bestTaker 87 = .ok (.areturn, 1) := by decide +kernel
theorem dX4_priceFromBuyers_0 : decode cX4_priceFromBuyers 0 = .ok (.iconst (-1), 1) := by decide +kernel
theorem dX4_priceFromBuyers_1 : decode cX4_priceFromBuyers 1 = .ok (.istore_n 2, 1) := by decide +kernel
theorem dX4_priceFromBuyers_2 : decode cX4_priceFromBuyers 2 = .ok (.aload_n 0, 1) := by decide +kernel
theorem dX4_priceFromBuyers_3 : decode cX4_priceFromBuyers 3 = .ok (.getfield 23, 3) := by decide +kernel
theorem dX4_priceFromBuyers_6 : decode cX4_priceFromBuyers 6 = .ok (.astore_n 3, 1) := by decide +kernel
theorem dX4_priceFromBuyers_7 : decode cX4_priceFromBuyers 7 = .ok (.aload_n 3, 1) := by decide +kernel
theorem dX4_priceFromBuyers_8 : decode cX4_priceFromBuyers 8 = .ok (.arraylength, 1) := by decide +kernel
theorem dX4_priceFromBuyers_9 : decode cX4_priceFromBuyers 9 = .ok (.istore 4, 2) := by decide +kernel
theorem dX4_priceFromBuyers_11 : decode cX4_priceFromBuyers 11 = .ok (.iconst 0, 1) := by decide +kernel
theorem dX4_priceFromBuyers_12 : decode cX4_priceFromBuyers 12 = .ok (.istore 5, 2) := by decide +kernel
theorem dX4_priceFromBuyers_14 : decode cX4_priceFromBuyers 14 = .ok (.iload 5, 2) := by decide +kernel
theorem dX4_priceFromBuyers_16 : decode cX4_priceFromBuyers 16 = .ok (.iload 4, 2) := by decide +kernel
theorem dX4_priceFromBuyers_18 : decode cX4_priceFromBuyers 18 = .ok (.if_icmp .ge 35, 3) := by decide +kernel
theorem dX4_priceFromBuyers_21 : decode cX4_priceFromBuyers 21 = .ok (.aload_n 3, 1) := by decide +kernel
theorem dX4_priceFromBuyers_22 : decode cX4_priceFromBuyers 22 = .ok (.iload 5, 2) := by decide +kernel
theorem dX4_priceFromBuyers_24 : decode cX4_priceFromBuyers 24 = .ok (.aaload, 1) := by decide +kernel
theorem dX4_priceFromBuyers_25 : decode cX4_priceFromBuyers 25 = .ok (.astore 6, 2) := by decide +kernel
theorem dX4_priceFromBuyers_27 : decode cX4_priceFromBuyers 27 = .ok (.aload 6, 2) := by decide +kernel
theorem dX4_priceFromBuyers_29 : decode cX4_priceFromBuyers 29 = .ok (.ifnull 18, 3) := by decide +kernel
theorem dX4_priceFromBuyers_32 : decode cX4_priceFromBuyers 32 = .ok (.iload_n 2, 1) := by decide +kernel
theorem dX4_priceFromBuyers_33 : decode cX4_priceFromBuyers 33 = .ok (.aload_n 0, 1) := by decide +kernel
theorem dX4_priceFromBuyers_34 : decode cX4_priceFromBuyers 34 = .ok (.aload 6, 2) := by decide +kernel
theorem dX4_priceFromBuyers_36 : decode cX4_priceFromBuyers 36 = .ok (.aload_n 1, 1) := by decide +kernel
theorem dX4_priceFromBuyers_37 : decode cX4_priceFromBuyers 37 = .ok (.invokevirtual 332, 3) := by decide +kernel
theorem dX4_priceFromBuyers_40 : decode cX4_priceFromBuyers 40 = .ok (.invokevirtual 335, 3) := by decide +kernel
theorem dX4_priceFromBuyers_43 : decode cX4_priceFromBuyers 43 = .ok (.invokestatic 329, 3) := by decide +kernel
theorem dX4_priceFromBuyers_46 : decode cX4_priceFromBuyers 46 = .ok (.istore_n 2, 1) := by decide +kernel
theorem dX4_priceFromBuyers_47 : decode cX4_priceFromBuyers 47 = .ok (.iinc 5 1, 3) := by decide +kernel
theorem dX4_priceFromBuyers_50 : decode cX4_priceFromBuyers 50 = .ok (.goto (-36), 3) := by decide +kernel
theorem dX4_priceFromBuyers_53 : decode cX4_priceFromBuyers 53 = .ok (.iload_n 2, 1) := by decide +kernel
theorem dX4_priceFromBuyers_54 : decode cX4_priceFromBuyers 54 = .ok (.ireturn, 1) := by decide +kernel
theorem dX4_greatestShownUpTo_0 : decode cX4_greatestShownUpTo 0 = .ok (.iload_n 1, 1) := by decide +kernel
theorem dX4_greatestShownUpTo_1 : decode cX4_greatestShownUpTo 1 = .ok (.aload_n 0, 1) := by decide +kernel
theorem dX4_greatestShownUpTo_2 : decode cX4_greatestShownUpTo 2 = .ok (.getfield 55, 3) := by decide +kernel
theorem dX4_greatestShownUpTo_5 : decode cX4_greatestShownUpTo 5 = .ok (.if_icmp .lt 8, 3) := by decide +kernel
theorem dX4_greatestShownUpTo_8 : decode cX4_greatestShownUpTo 8 = .ok (.aload_n 0, 1) := by decide +kernel
theorem dX4_greatestShownUpTo_9 : decode cX4_greatestShownUpTo 9 = .ok (.getfield 55, 3) := by decide +kernel
theorem dX4_greatestShownUpTo_12 : decode cX4_greatestShownUpTo 12 = .ok (.ireturn, 1) := by decide +kernel
theorem dX4_greatestShownUpTo_13 : decode cX4_greatestShownUpTo 13 = .ok (.aload_n 0, 1) := by decide +kernel
theorem dX4_greatestShownUpTo_14 : decode cX4_greatestShownUpTo 14 = .ok (.getfield 58, 3) := by decide +kernel
theorem dX4_greatestShownUpTo_17 : decode cX4_greatestShownUpTo 17 = .ok (.iconst 1, 1) := by decide +kernel
theorem dX4_greatestShownUpTo_18 : decode cX4_greatestShownUpTo 18 = .ok (.if_icmp .ge 5, 3) := by decide +kernel
theorem dX4_greatestShownUpTo_21 : decode cX4_greatestShownUpTo 21 = .ok (.iconst (-1), 1) := by decide +kernel
theorem dX4_greatestShownUpTo_22 : decode cX4_greatestShownUpTo 22 = .ok (.ireturn, 1) := by decide +kernel
theorem dX4_greatestShownUpTo_23 : decode cX4_greatestShownUpTo 23 = .ok (.aload_n 0, 1) := by decide +kernel
theorem dX4_greatestShownUpTo_24 : decode cX4_greatestShownUpTo 24 = .ok (.getfield 55, 3) := by decide +kernel
theorem dX4_greatestShownUpTo_27 : decode cX4_greatestShownUpTo 27 = .ok (.iload_n 1, 1) := by decide +kernel
theorem dX4_greatestShownUpTo_28 : decode cX4_greatestShownUpTo 28 = .ok (.isub, 1) := by decide +kernel
theorem dX4_greatestShownUpTo_29 : decode cX4_greatestShownUpTo 29 = .ok (.aload_n 0, 1) := by decide +kernel
theorem dX4_greatestShownUpTo_30 : decode cX4_greatestShownUpTo 30 = .ok (.getfield 58, 3) := by decide +kernel
theorem dX4_greatestShownUpTo_33 : decode cX4_greatestShownUpTo 33 = .ok (.iadd, 1) := by decide +kernel
theorem dX4_greatestShownUpTo_34 : decode cX4_greatestShownUpTo 34 = .ok (.iconst 1, 1) := by decide +kernel
theorem dX4_greatestShownUpTo_35 : decode cX4_greatestShownUpTo 35 = .ok (.isub, 1) := by decide +kernel
theorem dX4_greatestShownUpTo_36 : decode cX4_greatestShownUpTo 36 = .ok (.aload_n 0, 1) := by decide +kernel
theorem dX4_greatestShownUpTo_37 : decode cX4_greatestShownUpTo 37 = .ok (.getfield 58, 3) := by decide +kernel
theorem dX4_greatestShownUpTo_40 : decode cX4_greatestShownUpTo 40 = .ok (.idiv, 1) := by decide +kernel
theorem dX4_greatestShownUpTo_41 : decode cX4_greatestShownUpTo 41 = .ok (.istore_n 2, 1) := by decide +kernel
theorem dX4_greatestShownUpTo_42 : decode cX4_greatestShownUpTo 42 = .ok (.aload_n 0, 1) := by decide +kernel
theorem dX4_greatestShownUpTo_43 : decode cX4_greatestShownUpTo 43 = .ok (.getfield 55, 3) := by decide +kernel
theorem dX4_greatestShownUpTo_46 : decode cX4_greatestShownUpTo 46 = .ok (.iload_n 2, 1) := by decide +kernel
theorem dX4_greatestShownUpTo_47 : decode cX4_greatestShownUpTo 47 = .ok (.aload_n 0, 1) := by decide +kernel
theorem dX4_greatestShownUpTo_48 : decode cX4_greatestShownUpTo 48 = .ok (.getfield 58, 3) := by decide +kernel
theorem dX4_greatestShownUpTo_51 : decode cX4_greatestShownUpTo 51 = .ok (.imul, 1) := by decide +kernel
theorem dX4_greatestShownUpTo_52 : decode cX4_greatestShownUpTo 52 = .ok (.isub, 1) := by decide +kernel
theorem dX4_greatestShownUpTo_53 : decode cX4_greatestShownUpTo 53 = .ok (.istore_n 3, 1) := by decide +kernel
theorem dX4_greatestShownUpTo_54 : decode cX4_greatestShownUpTo 54 = .ok (.iload_n 3, 1) := by decide +kernel
theorem dX4_greatestShownUpTo_55 : decode cX4_greatestShownUpTo 55 = .ok (.aload_n 0, 1) := by decide +kernel
theorem dX4_greatestShownUpTo_56 : decode cX4_greatestShownUpTo 56 = .ok (.getfield 61, 3) := by decide +kernel
theorem dX4_greatestShownUpTo_59 : decode cX4_greatestShownUpTo 59 = .ok (.if_icmp .ge 7, 3) := by decide +kernel
theorem dX4_greatestShownUpTo_62 : decode cX4_greatestShownUpTo 62 = .ok (.iconst (-1), 1) := by decide +kernel
theorem dX4_greatestShownUpTo_63 : decode cX4_greatestShownUpTo 63 = .ok (.goto 4, 3) := by decide +kernel
theorem dX4_greatestShownUpTo_66 : decode cX4_greatestShownUpTo 66 = .ok (.iload_n 3, 1) := by decide +kernel
theorem dX4_greatestShownUpTo_67 : decode cX4_greatestShownUpTo 67 = .ok (.ireturn, 1) := by decide +kernel
theorem dX4_deliverAll_0 : decode cX4_deliverAll 0 = .ok (.aload_n 1, 1) := by decide +kernel
theorem dX4_deliverAll_1 : decode cX4_deliverAll 1 = .ok (.getfield 276, 3) := by decide +kernel
theorem dX4_deliverAll_4 : decode cX4_deliverAll 4 = .ok (.astore_n 2, 1) := by decide +kernel
theorem dX4_deliverAll_5 : decode cX4_deliverAll 5 = .ok (.aload_n 2, 1) := by decide +kernel
theorem dX4_deliverAll_6 : decode cX4_deliverAll 6 = .ok (.arraylength, 1) := by decide +kernel
theorem dX4_deliverAll_7 : decode cX4_deliverAll 7 = .ok (.istore_n 3, 1) := by decide +kernel
theorem dX4_deliverAll_8 : decode cX4_deliverAll 8 = .ok (.iconst 0, 1) := by decide +kernel
theorem dX4_deliverAll_9 : decode cX4_deliverAll 9 = .ok (.istore 4, 2) := by decide +kernel
theorem dX4_deliverAll_11 : decode cX4_deliverAll 11 = .ok (.iload 4, 2) := by decide +kernel
theorem dX4_deliverAll_13 : decode cX4_deliverAll 13 = .ok (.iload_n 3, 1) := by decide +kernel
theorem dX4_deliverAll_14 : decode cX4_deliverAll 14 = .ok (.if_icmp .ge 33, 3) := by decide +kernel
theorem dX4_deliverAll_17 : decode cX4_deliverAll 17 = .ok (.aload_n 2, 1) := by decide +kernel
theorem dX4_deliverAll_18 : decode cX4_deliverAll 18 = .ok (.iload 4, 2) := by decide +kernel
theorem dX4_deliverAll_20 : decode cX4_deliverAll 20 = .ok (.aaload, 1) := by decide +kernel
theorem dX4_deliverAll_21 : decode cX4_deliverAll 21 = .ok (.astore 5, 2) := by decide +kernel
theorem dX4_deliverAll_23 : decode cX4_deliverAll 23 = .ok (.aload 5, 2) := by decide +kernel
theorem dX4_deliverAll_25 : decode cX4_deliverAll 25 = .ok (.ifnull 16, 3) := by decide +kernel
theorem dX4_deliverAll_28 : decode cX4_deliverAll 28 = .ok (.aload 5, 2) := by decide +kernel
theorem dX4_deliverAll_30 : decode cX4_deliverAll 30 = .ok (.bipush 100, 2) := by decide +kernel
theorem dX4_deliverAll_32 : decode cX4_deliverAll 32 = .ok (.putfield 152, 3) := by decide +kernel
theorem dX4_deliverAll_35 : decode cX4_deliverAll 35 = .ok (.aload_n 0, 1) := by decide +kernel
theorem dX4_deliverAll_36 : decode cX4_deliverAll 36 = .ok (.aload 5, 2) := by decide +kernel
theorem dX4_deliverAll_38 : decode cX4_deliverAll 38 = .ok (.invokevirtual 339, 3) := by decide +kernel
theorem dX4_deliverAll_41 : decode cX4_deliverAll 41 = .ok (.iinc 4 1, 3) := by decide +kernel
theorem dX4_deliverAll_44 : decode cX4_deliverAll 44 = .ok (.goto (-33), 3) := by decide +kernel
theorem dX4_deliverAll_47 : decode cX4_deliverAll 47 = .ok (.return_, 1) := by decide +kernel
theorem dX4_giveMoneyBack_0 : decode cX4_giveMoneyBack 0 = .ok (.aload_n 1, 1) := by decide +kernel
theorem dX4_giveMoneyBack_1 : decode cX4_giveMoneyBack 1 = .ok (.getfield 231, 3) := by decide +kernel
theorem dX4_giveMoneyBack_4 : decode cX4_giveMoneyBack 4 = .ok (.astore_n 2, 1) := by decide +kernel
theorem dX4_giveMoneyBack_5 : decode cX4_giveMoneyBack 5 = .ok (.aload_n 2, 1) := by decide +kernel
theorem dX4_giveMoneyBack_6 : decode cX4_giveMoneyBack 6 = .ok (.ifnull 14, 3) := by decide +kernel
theorem dX4_giveMoneyBack_9 : decode cX4_giveMoneyBack 9 = .ok (.aload_n 1, 1) := by decide +kernel
theorem dX4_giveMoneyBack_10 : decode cX4_giveMoneyBack 10 = .ok (.getfield 156, 3) := by decide +kernel
theorem dX4_giveMoneyBack_13 : decode cX4_giveMoneyBack 13 = .ok (.ldc_w 342, 3) := by decide +kernel
theorem dX4_giveMoneyBack_16 : decode cX4_giveMoneyBack 16 = .ok (.fcmp .l, 1) := by decide +kernel
theorem dX4_giveMoneyBack_17 : decode cX4_giveMoneyBack 17 = .ok (.ifCond .lt 4, 3) := by decide +kernel
theorem dX4_giveMoneyBack_20 : decode cX4_giveMoneyBack 20 = .ok (.return_, 1) := by decide +kernel
theorem dX4_giveMoneyBack_21 : decode cX4_giveMoneyBack 21 = .ok (.aload_n 1, 1) := by decide +kernel
theorem dX4_giveMoneyBack_22 : decode cX4_giveMoneyBack 22 = .ok (.getfield 235, 3) := by decide +kernel
theorem dX4_giveMoneyBack_25 : decode cX4_giveMoneyBack 25 = .ok (.i2f, 1) := by decide +kernel
theorem dX4_giveMoneyBack_26 : decode cX4_giveMoneyBack 26 = .ok (.ldc_w 342, 3) := by decide +kernel
theorem dX4_giveMoneyBack_29 : decode cX4_giveMoneyBack 29 = .ok (.aload_n 1, 1) := by decide +kernel
theorem dX4_giveMoneyBack_30 : decode cX4_giveMoneyBack 30 = .ok (.getfield 156, 3) := by decide +kernel
theorem dX4_giveMoneyBack_33 : decode cX4_giveMoneyBack 33 = .ok (.fsub, 1) := by decide +kernel
theorem dX4_giveMoneyBack_34 : decode cX4_giveMoneyBack 34 = .ok (.fmul, 1) := by decide +kernel
theorem dX4_giveMoneyBack_35 : decode cX4_giveMoneyBack 35 = .ok (.ldc_w 343, 3) := by decide +kernel
theorem dX4_giveMoneyBack_38 : decode cX4_giveMoneyBack 38 = .ok (.fdiv, 1) := by decide +kernel
theorem dX4_giveMoneyBack_39 : decode cX4_giveMoneyBack 39 = .ok (.f2i, 1) := by decide +kernel
theorem dX4_giveMoneyBack_40 : decode cX4_giveMoneyBack 40 = .ok (.istore_n 3, 1) := by decide +kernel
theorem dX4_giveMoneyBack_41 : decode cX4_giveMoneyBack 41 = .ok (.aload_n 2, 1) := by decide +kernel
theorem dX4_giveMoneyBack_42 : decode cX4_giveMoneyBack 42 = .ok (.dup, 1) := by decide +kernel
theorem dX4_giveMoneyBack_43 : decode cX4_giveMoneyBack 43 = .ok (.getfield 205, 3) := by decide +kernel
theorem dX4_giveMoneyBack_46 : decode cX4_giveMoneyBack 46 = .ok (.iload_n 3, 1) := by decide +kernel
theorem dX4_giveMoneyBack_47 : decode cX4_giveMoneyBack 47 = .ok (.iadd, 1) := by decide +kernel
theorem dX4_giveMoneyBack_48 : decode cX4_giveMoneyBack 48 = .ok (.putfield 205, 3) := by decide +kernel
theorem dX4_giveMoneyBack_51 : decode cX4_giveMoneyBack 51 = .ok (.aload_n 1, 1) := by decide +kernel
theorem dX4_giveMoneyBack_52 : decode cX4_giveMoneyBack 52 = .ok (.dup, 1) := by decide +kernel
theorem dX4_giveMoneyBack_53 : decode cX4_giveMoneyBack 53 = .ok (.getfield 235, 3) := by decide +kernel
theorem dX4_giveMoneyBack_56 : decode cX4_giveMoneyBack 56 = .ok (.iload_n 3, 1) := by decide +kernel
theorem dX4_giveMoneyBack_57 : decode cX4_giveMoneyBack 57 = .ok (.isub, 1) := by decide +kernel
theorem dX4_giveMoneyBack_58 : decode cX4_giveMoneyBack 58 = .ok (.putfield 235, 3) := by decide +kernel
theorem dX4_giveMoneyBack_61 : decode cX4_giveMoneyBack 61 = .ok (.aload_n 0, 1) := by decide +kernel
theorem dX4_giveMoneyBack_62 : decode cX4_giveMoneyBack 62 = .ok (.dup, 1) := by decide +kernel
theorem dX4_giveMoneyBack_63 : decode cX4_giveMoneyBack 63 = .ok (.getfield 64, 3) := by decide +kernel
theorem dX4_giveMoneyBack_66 : decode cX4_giveMoneyBack 66 = .ok (.iload_n 3, 1) := by decide +kernel
theorem dX4_giveMoneyBack_67 : decode cX4_giveMoneyBack 67 = .ok (.i2l, 1) := by decide +kernel
theorem dX4_giveMoneyBack_68 : decode cX4_giveMoneyBack 68 = .ok (.lsub, 1) := by decide +kernel
theorem dX4_giveMoneyBack_69 : decode cX4_giveMoneyBack 69 = .ok (.putfield 64, 3) := by decide +kernel
theorem dX4_giveMoneyBack_72 : decode cX4_giveMoneyBack 72 = .ok (.return_, 1) := by decide +kernel
theorem dX4_weightOfAllLots_0 : decode cX4_weightOfAllLots 0 = .ok (.iconst 0, 1) := by decide +kernel
theorem dX4_weightOfAllLots_1 : decode cX4_weightOfAllLots 1 = .ok (.istore_n 1, 1) := by decide +kernel
theorem dX4_weightOfAllLots_2 : decode cX4_weightOfAllLots 2 = .ok (.aload_n 0, 1) := by decide +kernel
theorem dX4_weightOfAllLots_3 : decode cX4_weightOfAllLots 3 = .ok (.getfield 17, 3) := by decide +kernel
theorem dX4_weightOfAllLots_6 : decode cX4_weightOfAllLots 6 = .ok (.astore_n 2, 1) := by decide +kernel
theorem dX4_weightOfAllLots_7 : decode cX4_weightOfAllLots 7 = .ok (.aload_n 2, 1) := by decide +kernel
theorem dX4_weightOfAllLots_8 : decode cX4_weightOfAllLots 8 = .ok (.arraylength, 1) := by decide +kernel
theorem dX4_weightOfAllLots_9 : decode cX4_weightOfAllLots 9 = .ok (.istore_n 3, 1) := by decide +kernel
theorem dX4_weightOfAllLots_10 : decode cX4_weightOfAllLots 10 = .ok (.iconst 0, 1) := by decide +kernel
theorem dX4_weightOfAllLots_11 : decode cX4_weightOfAllLots 11 = .ok (.istore 4, 2) := by decide +kernel
theorem dX4_weightOfAllLots_13 : decode cX4_weightOfAllLots 13 = .ok (.iload 4, 2) := by decide +kernel
theorem dX4_weightOfAllLots_15 : decode cX4_weightOfAllLots 15 = .ok (.iload_n 3, 1) := by decide +kernel
theorem dX4_weightOfAllLots_16 : decode cX4_weightOfAllLots 16 = .ok (.if_icmp .ge 28, 3) := by decide +kernel
theorem dX4_weightOfAllLots_19 : decode cX4_weightOfAllLots 19 = .ok (.aload_n 2, 1) := by decide +kernel
theorem dX4_weightOfAllLots_20 : decode cX4_weightOfAllLots 20 = .ok (.iload 4, 2) := by decide +kernel
theorem dX4_weightOfAllLots_22 : decode cX4_weightOfAllLots 22 = .ok (.aaload, 1) := by decide +kernel
theorem dX4_weightOfAllLots_23 : decode cX4_weightOfAllLots 23 = .ok (.astore 5, 2) := by decide +kernel
theorem dX4_weightOfAllLots_25 : decode cX4_weightOfAllLots 25 = .ok (.aload 5, 2) := by decide +kernel
theorem dX4_weightOfAllLots_27 : decode cX4_weightOfAllLots 27 = .ok (.ifnull 11, 3) := by decide +kernel
theorem dX4_weightOfAllLots_30 : decode cX4_weightOfAllLots 30 = .ok (.iload_n 1, 1) := by decide +kernel
theorem dX4_weightOfAllLots_31 : decode cX4_weightOfAllLots 31 = .ok (.aload 5, 2) := by decide +kernel
theorem dX4_weightOfAllLots_33 : decode cX4_weightOfAllLots 33 = .ok (.getfield 149, 3) := by decide +kernel
theorem dX4_weightOfAllLots_36 : decode cX4_weightOfAllLots 36 = .ok (.iadd, 1) := by decide +kernel
theorem dX4_weightOfAllLots_37 : decode cX4_weightOfAllLots 37 = .ok (.istore_n 1, 1) := by decide +kernel
theorem dX4_weightOfAllLots_38 : decode cX4_weightOfAllLots 38 = .ok (.iinc 4 1, 3) := by decide +kernel
theorem dX4_weightOfAllLots_41 : decode cX4_weightOfAllLots 41 = .ok (.goto (-28), 3) := by decide +kernel
theorem dX4_weightOfAllLots_44 : decode cX4_weightOfAllLots 44 = .ok (.iload_n 1, 1) := by decide +kernel
theorem dX4_weightOfAllLots_45 : decode cX4_weightOfAllLots 45 = .ok (.ireturn, 1) := by decide +kernel
theorem dX4_weightOfSoldLots_0 : decode cX4_weightOfSoldLots 0 = .ok (.iconst 0, 1) := by decide +kernel
theorem dX4_weightOfSoldLots_1 : decode cX4_weightOfSoldLots 1 = .ok (.istore_n 1, 1) := by decide +kernel
theorem dX4_weightOfSoldLots_2 : decode cX4_weightOfSoldLots 2 = .ok (.aload_n 0, 1) := by decide +kernel
theorem dX4_weightOfSoldLots_3 : decode cX4_weightOfSoldLots 3 = .ok (.getfield 17, 3) := by decide +kernel
theorem dX4_weightOfSoldLots_6 : decode cX4_weightOfSoldLots 6 = .ok (.astore_n 2, 1) := by decide +kernel
theorem dX4_weightOfSoldLots_7 : decode cX4_weightOfSoldLots 7 = .ok (.aload_n 2, 1) := by decide +kernel
theorem dX4_weightOfSoldLots_8 : decode cX4_weightOfSoldLots 8 = .ok (.arraylength, 1) := by decide +kernel
theorem dX4_weightOfSoldLots_9 : decode cX4_weightOfSoldLots 9 = .ok (.istore_n 3, 1) := by decide +kernel
theorem dX4_weightOfSoldLots_10 : decode cX4_weightOfSoldLots 10 = .ok (.iconst 0, 1) := by decide +kernel
theorem dX4_weightOfSoldLots_11 : decode cX4_weightOfSoldLots 11 = .ok (.istore 4, 2) := by decide +kernel
theorem dX4_weightOfSoldLots_13 : decode cX4_weightOfSoldLots 13 = .ok (.iload 4, 2) := by decide +kernel
theorem dX4_weightOfSoldLots_15 : decode cX4_weightOfSoldLots 15 = .ok (.iload_n 3, 1) := by decide +kernel
theorem dX4_weightOfSoldLots_16 : decode cX4_weightOfSoldLots 16 = .ok (.if_icmp .ge 36, 3) := by decide +kernel
theorem dX4_weightOfSoldLots_19 : decode cX4_weightOfSoldLots 19 = .ok (.aload_n 2, 1) := by decide +kernel
theorem dX4_weightOfSoldLots_20 : decode cX4_weightOfSoldLots 20 = .ok (.iload 4, 2) := by decide +kernel
theorem dX4_weightOfSoldLots_22 : decode cX4_weightOfSoldLots 22 = .ok (.aaload, 1) := by decide +kernel
theorem dX4_weightOfSoldLots_23 : decode cX4_weightOfSoldLots 23 = .ok (.astore 5, 2) := by decide +kernel
theorem dX4_weightOfSoldLots_25 : decode cX4_weightOfSoldLots 25 = .ok (.aload 5, 2) := by decide +kernel
theorem dX4_weightOfSoldLots_27 : decode cX4_weightOfSoldLots 27 = .ok (.ifnull 19, 3) := by decide +kernel
theorem dX4_weightOfSoldLots_30 : decode cX4_weightOfSoldLots 30 = .ok (.aload 5, 2) := by decide +kernel
theorem dX4_weightOfSoldLots_32 : decode cX4_weightOfSoldLots 32 = .ok (.invokevirtual 344, 3) := by decide +kernel
theorem dX4_weightOfSoldLots_35 : decode cX4_weightOfSoldLots 35 = .ok (.ifCond .eq 11, 3) := by decide +kernel
theorem dX4_weightOfSoldLots_38 : decode cX4_weightOfSoldLots 38 = .ok (.iload_n 1, 1) := by decide +kernel
theorem dX4_weightOfSoldLots_39 : decode cX4_weightOfSoldLots 39 = .ok (.aload 5, 2) := by decide +kernel
theorem dX4_weightOfSoldLots_41 : decode cX4_weightOfSoldLots 41 = .ok (.getfield 149, 3) := by decide +kernel
theorem dX4_weightOfSoldLots_44 : decode cX4_weightOfSoldLots 44 = .ok (.iadd, 1) := by decide +kernel
theorem dX4_weightOfSoldLots_45 : decode cX4_weightOfSoldLots 45 = .ok (.istore_n 1, 1) := by decide +kernel
theorem dX4_weightOfSoldLots_46 : decode cX4_weightOfSoldLots 46 = .ok (.iinc 4 1, 3) := by decide +kernel
theorem dX4_weightOfSoldLots_49 : decode cX4_weightOfSoldLots 49 = .ok (.goto (-36), 3) := by decide +kernel
theorem dX4_weightOfSoldLots_52 : decode cX4_weightOfSoldLots 52 = .ok (.iload_n 1, 1) := by decide +kernel
theorem dX4_weightOfSoldLots_53 : decode cX4_weightOfSoldLots 53 = .ok (.ireturn, 1) := by decide +kernel
theorem dX4_meanOfSoldKilograms_0 : decode cX4_meanOfSoldKilograms 0 = .ok (.aload_n 0, 1) := by decide +kernel
theorem dX4_meanOfSoldKilograms_1 : decode cX4_meanOfSoldKilograms 1 = .ok (.invokevirtual 290, 3) := by decide +kernel
theorem dX4_meanOfSoldKilograms_4 : decode cX4_meanOfSoldKilograms 4 = .ok (.istore_n 1, 1) := by decide +kernel
theorem dX4_meanOfSoldKilograms_5 : decode cX4_meanOfSoldKilograms 5 = .ok (.iload_n 1, 1) := by decide +kernel
theorem dX4_meanOfSoldKilograms_6 : decode cX4_meanOfSoldKilograms 6 = .ok (.ifCond .ne 14, 3) := by decide +kernel
theorem dX4_meanOfSoldKilograms_9 : decode cX4_meanOfSoldKilograms 9 = .ok (.new 285, 3) := by decide +kernel
theorem dX4_meanOfSoldKilograms_12 : decode cX4_meanOfSoldKilograms 12 = .ok (.dup, 1) := by decide +kernel
theorem dX4_meanOfSoldKilograms_13 : decode cX4_meanOfSoldKilograms 13 = .ok (.ldc_w 347, 3) := by decide +kernel
theorem dX4_meanOfSoldKilograms_16 : decode cX4_meanOfSoldKilograms 16 = .ok (.invokespecial 289, 3) := by decide +kernel
theorem dX4_meanOfSoldKilograms_19 : decode cX4_meanOfSoldKilograms 19 = .ok (.athrow, 1) := by decide +kernel
theorem dX4_meanOfSoldKilograms_20 : decode cX4_meanOfSoldKilograms 20 = .ok (.aload_n 0, 1) := by decide +kernel
theorem dX4_meanOfSoldKilograms_21 : decode cX4_meanOfSoldKilograms 21 = .ok (.getfield 64, 3) := by decide +kernel
theorem dX4_meanOfSoldKilograms_24 : decode cX4_meanOfSoldKilograms 24 = .ok (.l2d, 1) := by decide +kernel
theorem dX4_meanOfSoldKilograms_25 : decode cX4_meanOfSoldKilograms 25 = .ok (.iload_n 1, 1) := by decide +kernel
theorem dX4_meanOfSoldKilograms_26 : decode cX4_meanOfSoldKilograms 26 = .ok (.i2d, 1) := by decide +kernel
theorem dX4_meanOfSoldKilograms_27 : decode cX4_meanOfSoldKilograms 27 = .ok (.ddiv, 1) := by decide +kernel
theorem dX4_meanOfSoldKilograms_28 : decode cX4_meanOfSoldKilograms 28 = .ok (.dreturn, 1) := by decide +kernel
theorem dX4_arePricesSound_0 : decode cX4_arePricesSound 0 = .ok (.aload_n 0, 1) := by decide +kernel
theorem dX4_arePricesSound_1 : decode cX4_arePricesSound 1 = .ok (.getfield 17, 3) := by decide +kernel
theorem dX4_arePricesSound_4 : decode cX4_arePricesSound 4 = .ok (.astore_n 1, 1) := by decide +kernel
theorem dX4_arePricesSound_5 : decode cX4_arePricesSound 5 = .ok (.aload_n 1, 1) := by decide +kernel
theorem dX4_arePricesSound_6 : decode cX4_arePricesSound 6 = .ok (.arraylength, 1) := by decide +kernel
theorem dX4_arePricesSound_7 : decode cX4_arePricesSound 7 = .ok (.istore_n 2, 1) := by decide +kernel
theorem dX4_arePricesSound_8 : decode cX4_arePricesSound 8 = .ok (.iconst 0, 1) := by decide +kernel
theorem dX4_arePricesSound_9 : decode cX4_arePricesSound 9 = .ok (.istore_n 3, 1) := by decide +kernel
theorem dX4_arePricesSound_10 : decode cX4_arePricesSound 10 = .ok (.iload_n 3, 1) := by decide +kernel
theorem dX4_arePricesSound_11 : decode cX4_arePricesSound 11 = .ok (.iload_n 2, 1) := by decide +kernel
theorem dX4_arePricesSound_12 : decode cX4_arePricesSound 12 = .ok (.if_icmp .ge 46, 3) := by decide +kernel
theorem dX4_arePricesSound_15 : decode cX4_arePricesSound 15 = .ok (.aload_n 1, 1) := by decide +kernel
theorem dX4_arePricesSound_16 : decode cX4_arePricesSound 16 = .ok (.iload_n 3, 1) := by decide +kernel
theorem dX4_arePricesSound_17 : decode cX4_arePricesSound 17 = .ok (.aaload, 1) := by decide +kernel
theorem dX4_arePricesSound_18 : decode cX4_arePricesSound 18 = .ok (.astore 4, 2) := by decide +kernel
theorem dX4_arePricesSound_20 : decode cX4_arePricesSound 20 = .ok (.aload 4, 2) := by decide +kernel
theorem dX4_arePricesSound_22 : decode cX4_arePricesSound 22 = .ok (.ifnull 30, 3) := by decide +kernel
theorem dX4_arePricesSound_25 : decode cX4_arePricesSound 25 = .ok (.aload 4, 2) := by decide +kernel
theorem dX4_arePricesSound_27 : decode cX4_arePricesSound 27 = .ok (.getfield 152, 3) := by decide +kernel
theorem dX4_arePricesSound_30 : decode cX4_arePricesSound 30 = .ok (.bipush 102, 2) := by decide +kernel
theorem dX4_arePricesSound_32 : decode cX4_arePricesSound 32 = .ok (.if_icmp .ne 20, 3) := by decide +kernel
theorem dX4_arePricesSound_35 : decode cX4_arePricesSound 35 = .ok (.aload_n 0, 1) := by decide +kernel
theorem dX4_arePricesSound_36 : decode cX4_arePricesSound 36 = .ok (.aload 4, 2) := by decide +kernel
theorem dX4_arePricesSound_38 : decode cX4_arePricesSound 38 = .ok (.invokevirtual 217, 3) := by decide +kernel
theorem dX4_arePricesSound_41 : decode cX4_arePricesSound 41 = .ok (.aload_n 0, 1) := by decide +kernel
theorem dX4_arePricesSound_42 : decode cX4_arePricesSound 42 = .ok (.aload 4, 2) := by decide +kernel
theorem dX4_arePricesSound_44 : decode cX4_arePricesSound 44 = .ok (.invokevirtual 222, 3) := by decide +kernel
theorem dX4_arePricesSound_47 : decode cX4_arePricesSound 47 = .ok (.if_icmp .eq 5, 3) := by decide +kernel
theorem dX4_arePricesSound_50 : decode cX4_arePricesSound 50 = .ok (.iconst 0, 1) := by decide +kernel
theorem dX4_arePricesSound_51 : decode cX4_arePricesSound 51 = .ok (.ireturn, 1) := by decide +kernel
theorem dX4_arePricesSound_52 : decode cX4_arePricesSound 52 = .ok (.iinc 3 1, 3) := by decide +kernel
theorem dX4_arePricesSound_55 : decode cX4_arePricesSound 55 = .ok (.goto (-45), 3) := by decide +kernel
theorem dX4_arePricesSound_58 : decode cX4_arePricesSound 58 = .ok (.iconst 1, 1) := by decide +kernel
theorem dX4_arePricesSound_59 : decode cX4_arePricesSound 59 = .ok (.ireturn, 1) := by decide +kernel
theorem dX4_areQuotasSound_0 : decode cX4_areQuotasSound 0 = .ok (.aload_n 0, 1) := by decide +kernel
theorem dX4_areQuotasSound_1 : decode cX4_areQuotasSound 1 = .ok (.getfield 11, 3) := by decide +kernel
theorem dX4_areQuotasSound_4 : decode cX4_areQuotasSound 4 = .ok (.astore_n 1, 1) := by decide +kernel
theorem dX4_areQuotasSound_5 : decode cX4_areQuotasSound 5 = .ok (.aload_n 1, 1) := by decide +kernel
theorem dX4_areQuotasSound_6 : decode cX4_areQuotasSound 6 = .ok (.arraylength, 1) := by decide +kernel
theorem dX4_areQuotasSound_7 : decode cX4_areQuotasSound 7 = .ok (.istore_n 2, 1) := by decide +kernel
theorem dX4_areQuotasSound_8 : decode cX4_areQuotasSound 8 = .ok (.iconst 0, 1) := by decide +kernel
theorem dX4_areQuotasSound_9 : decode cX4_areQuotasSound 9 = .ok (.istore_n 3, 1) := by decide +kernel
theorem dX4_areQuotasSound_10 : decode cX4_areQuotasSound 10 = .ok (.iload_n 3, 1) := by decide +kernel
theorem dX4_areQuotasSound_11 : decode cX4_areQuotasSound 11 = .ok (.iload_n 2, 1) := by decide +kernel
theorem dX4_areQuotasSound_12 : decode cX4_areQuotasSound 12 = .ok (.if_icmp .ge 30, 3) := by decide +kernel
theorem dX4_areQuotasSound_15 : decode cX4_areQuotasSound 15 = .ok (.aload_n 1, 1) := by decide +kernel
theorem dX4_areQuotasSound_16 : decode cX4_areQuotasSound 16 = .ok (.iload_n 3, 1) := by decide +kernel
theorem dX4_areQuotasSound_17 : decode cX4_areQuotasSound 17 = .ok (.aaload, 1) := by decide +kernel
theorem dX4_areQuotasSound_18 : decode cX4_areQuotasSound 18 = .ok (.astore 4, 2) := by decide +kernel
theorem dX4_areQuotasSound_20 : decode cX4_areQuotasSound 20 = .ok (.aload 4, 2) := by decide +kernel
theorem dX4_areQuotasSound_22 : decode cX4_areQuotasSound 22 = .ok (.ifnull 14, 3) := by decide +kernel
theorem dX4_areQuotasSound_25 : decode cX4_areQuotasSound 25 = .ok (.aload_n 0, 1) := by decide +kernel
theorem dX4_areQuotasSound_26 : decode cX4_areQuotasSound 26 = .ok (.aload 4, 2) := by decide +kernel
theorem dX4_areQuotasSound_28 : decode cX4_areQuotasSound 28 = .ok (.invokevirtual 349, 3) := by decide +kernel
theorem dX4_areQuotasSound_31 : decode cX4_areQuotasSound 31 = .ok (.ifCond .ne 5, 3) := by decide +kernel
theorem dX4_areQuotasSound_34 : decode cX4_areQuotasSound 34 = .ok (.iconst 0, 1) := by decide +kernel
theorem dX4_areQuotasSound_35 : decode cX4_areQuotasSound 35 = .ok (.ireturn, 1) := by decide +kernel
theorem dX4_areQuotasSound_36 : decode cX4_areQuotasSound 36 = .ok (.iinc 3 1, 3) := by decide +kernel
theorem dX4_areQuotasSound_39 : decode cX4_areQuotasSound 39 = .ok (.goto (-29), 3) := by decide +kernel
theorem dX4_areQuotasSound_42 : decode cX4_areQuotasSound 42 = .ok (.iconst 1, 1) := by decide +kernel
theorem dX4_areQuotasSound_43 : decode cX4_areQuotasSound 43 = .ok (.ireturn, 1) := by decide +kernel
theorem dX4_isQuotaSound_0 : decode cX4_isQuotaSound 0 = .ok (.iconst 0, 1) := by decide +kernel
theorem dX4_isQuotaSound_1 : decode cX4_isQuotaSound 1 = .ok (.istore_n 2, 1) := by decide +kernel
theorem dX4_isQuotaSound_2 : decode cX4_isQuotaSound 2 = .ok (.iload_n 2, 1) := by decide +kernel
theorem dX4_isQuotaSound_3 : decode cX4_isQuotaSound 3 = .ok (.iconst 4, 1) := by decide +kernel
theorem dX4_isQuotaSound_4 : decode cX4_isQuotaSound 4 = .ok (.if_icmp .ge 33, 3) := by decide +kernel
theorem dX4_isQuotaSound_7 : decode cX4_isQuotaSound 7 = .ok (.aload_n 1, 1) := by decide +kernel
theorem dX4_isQuotaSound_8 : decode cX4_isQuotaSound 8 = .ok (.getfield 102, 3) := by decide +kernel
theorem dX4_isQuotaSound_11 : decode cX4_isQuotaSound 11 = .ok (.iload_n 2, 1) := by decide +kernel
theorem dX4_isQuotaSound_12 : decode cX4_isQuotaSound 12 = .ok (.iaload, 1) := by decide +kernel
theorem dX4_isQuotaSound_13 : decode cX4_isQuotaSound 13 = .ok (.aload_n 0, 1) := by decide +kernel
theorem dX4_isQuotaSound_14 : decode cX4_isQuotaSound 14 = .ok (.aload_n 1, 1) := by decide +kernel
theorem dX4_isQuotaSound_15 : decode cX4_isQuotaSound 15 = .ok (.iload_n 2, 1) := by decide +kernel
theorem dX4_isQuotaSound_16 : decode cX4_isQuotaSound 16 = .ok (.invokevirtual 353, 3) := by decide +kernel
theorem dX4_isQuotaSound_19 : decode cX4_isQuotaSound 19 = .ok (.iadd, 1) := by decide +kernel
theorem dX4_isQuotaSound_20 : decode cX4_isQuotaSound 20 = .ok (.aload_n 1, 1) := by decide +kernel
theorem dX4_isQuotaSound_21 : decode cX4_isQuotaSound 21 = .ok (.getfield 357, 3) := by decide +kernel
theorem dX4_isQuotaSound_24 : decode cX4_isQuotaSound 24 = .ok (.iload_n 2, 1) := by decide +kernel
theorem dX4_isQuotaSound_25 : decode cX4_isQuotaSound 25 = .ok (.iaload, 1) := by decide +kernel
theorem dX4_isQuotaSound_26 : decode cX4_isQuotaSound 26 = .ok (.if_icmp .eq 5, 3) := by decide +kernel
theorem dX4_isQuotaSound_29 : decode cX4_isQuotaSound 29 = .ok (.iconst 0, 1) := by decide +kernel
theorem dX4_isQuotaSound_30 : decode cX4_isQuotaSound 30 = .ok (.ireturn, 1) := by decide +kernel
theorem dX4_isQuotaSound_31 : decode cX4_isQuotaSound 31 = .ok (.iinc 2 1, 3) := by decide +kernel
theorem dX4_isQuotaSound_34 : decode cX4_isQuotaSound 34 = .ok (.goto (-32), 3) := by decide +kernel
theorem dX4_isQuotaSound_37 : decode cX4_isQuotaSound 37 = .ok (.iconst 1, 1) := by decide +kernel
theorem dX4_isQuotaSound_38 : decode cX4_isQuotaSound 38 = .ok (.ireturn, 1) := by decide +kernel
theorem dX4_landedBy_0 : decode cX4_landedBy 0 = .ok (.iconst 0, 1) := by decide +kernel
theorem dX4_landedBy_1 : decode cX4_landedBy 1 = .ok (.istore_n 3, 1) := by decide +kernel
theorem dX4_landedBy_2 : decode cX4_landedBy 2 = .ok (.aload_n 0, 1) := by decide +kernel
theorem dX4_landedBy_3 : decode cX4_landedBy 3 = .ok (.getfield 17, 3) := by decide +kernel
theorem dX4_landedBy_6 : decode cX4_landedBy 6 = .ok (.astore 4, 2) := by decide +kernel
theorem dX4_landedBy_8 : decode cX4_landedBy 8 = .ok (.aload 4, 2) := by decide +kernel
theorem dX4_landedBy_10 : decode cX4_landedBy 10 = .ok (.arraylength, 1) := by decide +kernel
theorem dX4_landedBy_11 : decode cX4_landedBy 11 = .ok (.istore 5, 2) := by decide +kernel
theorem dX4_landedBy_13 : decode cX4_landedBy 13 = .ok (.iconst 0, 1) := by decide +kernel
theorem dX4_landedBy_14 : decode cX4_landedBy 14 = .ok (.istore 6, 2) := by decide +kernel
theorem dX4_landedBy_16 : decode cX4_landedBy 16 = .ok (.iload 6, 2) := by decide +kernel
theorem dX4_landedBy_18 : decode cX4_landedBy 18 = .ok (.iload 5, 2) := by decide +kernel
theorem dX4_landedBy_20 : decode cX4_landedBy 20 = .ok (.if_icmp .ge 50, 3) := by decide +kernel
theorem dX4_landedBy_23 : decode cX4_landedBy 23 = .ok (.aload 4, 2) := by decide +kernel
theorem dX4_landedBy_25 : decode cX4_landedBy 25 = .ok (.iload 6, 2) := by decide +kernel
theorem dX4_landedBy_27 : decode cX4_landedBy 27 = .ok (.aaload, 1) := by decide +kernel
theorem dX4_landedBy_28 : decode cX4_landedBy 28 = .ok (.astore 7, 2) := by decide +kernel
theorem dX4_landedBy_30 : decode cX4_landedBy 30 = .ok (.aload 7, 2) := by decide +kernel
theorem dX4_landedBy_32 : decode cX4_landedBy 32 = .ok (.ifnull 32, 3) := by decide +kernel
theorem dX4_landedBy_35 : decode cX4_landedBy 35 = .ok (.aload 7, 2) := by decide +kernel
theorem dX4_landedBy_37 : decode cX4_landedBy 37 = .ok (.getfield 360, 3) := by decide +kernel
theorem dX4_landedBy_40 : decode cX4_landedBy 40 = .ok (.aload_n 1, 1) := by decide +kernel
theorem dX4_landedBy_41 : decode cX4_landedBy 41 = .ok (.getfield 363, 3) := by decide +kernel
theorem dX4_landedBy_44 : decode cX4_landedBy 44 = .ok (.if_icmp .ne 20, 3) := by decide +kernel
theorem dX4_landedBy_47 : decode cX4_landedBy 47 = .ok (.aload 7, 2) := by decide +kernel
theorem dX4_landedBy_49 : decode cX4_landedBy 49 = .ok (.getfield 364, 3) := by decide +kernel
theorem dX4_landedBy_52 : decode cX4_landedBy 52 = .ok (.iload_n 2, 1) := by decide +kernel
theorem dX4_landedBy_53 : decode cX4_landedBy 53 = .ok (.if_icmp .ne 11, 3) := by decide +kernel
theorem dX4_landedBy_56 : decode cX4_landedBy 56 = .ok (.iload_n 3, 1) := by decide +kernel
theorem dX4_landedBy_57 : decode cX4_landedBy 57 = .ok (.aload 7, 2) := by decide +kernel
theorem dX4_landedBy_59 : decode cX4_landedBy 59 = .ok (.getfield 149, 3) := by decide +kernel
theorem dX4_landedBy_62 : decode cX4_landedBy 62 = .ok (.iadd, 1) := by decide +kernel
theorem dX4_landedBy_63 : decode cX4_landedBy 63 = .ok (.istore_n 3, 1) := by decide +kernel
theorem dX4_landedBy_64 : decode cX4_landedBy 64 = .ok (.iinc 6 1, 3) := by decide +kernel
theorem dX4_landedBy_67 : decode cX4_landedBy 67 = .ok (.goto (-51), 3) := by decide +kernel
theorem dX4_landedBy_70 : decode cX4_landedBy 70 = .ok (.iload_n 3, 1) := by decide +kernel
theorem dX4_landedBy_71 : decode cX4_landedBy 71 = .ok (.ireturn, 1) := by decide +kernel
theorem dX4_bitsOfFreshness_0 : decode cX4_bitsOfFreshness 0 = .ok (.fload_n 0, 1) := by decide +kernel
theorem dX4_bitsOfFreshness_1 : decode cX4_bitsOfFreshness 1 = .ok (.fstore_n 1, 1) := by decide +kernel
theorem dX4_bitsOfFreshness_2 : decode cX4_bitsOfFreshness 2 = .ok (.iconst 0, 1) := by decide +kernel
theorem dX4_bitsOfFreshness_3 : decode cX4_bitsOfFreshness 3 = .ok (.istore_n 2, 1) := by decide +kernel
theorem dX4_bitsOfFreshness_4 : decode cX4_bitsOfFreshness 4 = .ok (.fload_n 1, 1) := by decide +kernel
theorem dX4_bitsOfFreshness_5 : decode cX4_bitsOfFreshness 5 = .ok (.fconst 2, 1) := by decide +kernel
theorem dX4_bitsOfFreshness_6 : decode cX4_bitsOfFreshness 6 = .ok (.fcmp .l, 1) := by decide +kernel
theorem dX4_bitsOfFreshness_7 : decode cX4_bitsOfFreshness 7 = .ok (.ifCond .lt 19, 3) := by decide +kernel
theorem dX4_bitsOfFreshness_10 : decode cX4_bitsOfFreshness 10 = .ok (.iload_n 2, 1) := by decide +kernel
theorem dX4_bitsOfFreshness_11 : decode cX4_bitsOfFreshness 11 = .ok (.bipush 127, 2) := by decide +kernel
theorem dX4_bitsOfFreshness_13 : decode cX4_bitsOfFreshness 13 = .ok (.if_icmp .ge 13, 3) := by decide +kernel
theorem dX4_bitsOfFreshness_16 : decode cX4_bitsOfFreshness 16 = .ok (.fload_n 1, 1) := by decide +kernel
theorem dX4_bitsOfFreshness_17 : decode cX4_bitsOfFreshness 17 = .ok (.fconst 2, 1) := by decide +kernel
theorem dX4_bitsOfFreshness_18 : decode cX4_bitsOfFreshness 18 = .ok (.fdiv, 1) := by decide +kernel
theorem dX4_bitsOfFreshness_19 : decode cX4_bitsOfFreshness 19 = .ok (.fstore_n 1, 1) := by decide +kernel
theorem dX4_bitsOfFreshness_20 : decode cX4_bitsOfFreshness 20 = .ok (.iinc 2 1, 3) := by decide +kernel
theorem dX4_bitsOfFreshness_23 : decode cX4_bitsOfFreshness 23 = .ok (.goto (-19), 3) := by decide +kernel
theorem dX4_bitsOfFreshness_26 : decode cX4_bitsOfFreshness 26 = .ok (.fload_n 1, 1) := by decide +kernel
theorem dX4_bitsOfFreshness_27 : decode cX4_bitsOfFreshness 27 = .ok (.fconst 1, 1) := by decide +kernel
theorem dX4_bitsOfFreshness_28 : decode cX4_bitsOfFreshness 28 = .ok (.fcmp .g, 1) := by decide +kernel
theorem dX4_bitsOfFreshness_29 : decode cX4_bitsOfFreshness 29 = .ok (.ifCond .ge 19, 3) := by decide +kernel
theorem dX4_bitsOfFreshness_32 : decode cX4_bitsOfFreshness 32 = .ok (.iload_n 2, 1) := by decide +kernel
theorem dX4_bitsOfFreshness_33 : decode cX4_bitsOfFreshness 33 = .ok (.bipush (-126), 2) := by decide +kernel
theorem dX4_bitsOfFreshness_35 : decode cX4_bitsOfFreshness 35 = .ok (.if_icmp .le 13, 3) := by decide +kernel
theorem dX4_bitsOfFreshness_38 : decode cX4_bitsOfFreshness 38 = .ok (.fload_n 1, 1) := by decide +kernel
theorem dX4_bitsOfFreshness_39 : decode cX4_bitsOfFreshness 39 = .ok (.fconst 2, 1) := by decide +kernel
theorem dX4_bitsOfFreshness_40 : decode cX4_bitsOfFreshness 40 = .ok (.fmul, 1) := by decide +kernel
theorem dX4_bitsOfFreshness_41 : decode cX4_bitsOfFreshness 41 = .ok (.fstore_n 1, 1) := by decide +kernel
theorem dX4_bitsOfFreshness_42 : decode cX4_bitsOfFreshness 42 = .ok (.iinc 2 (-1), 3) := by decide +kernel
theorem dX4_bitsOfFreshness_45 : decode cX4_bitsOfFreshness 45 = .ok (.goto (-19), 3) := by decide +kernel
theorem dX4_bitsOfFreshness_48 : decode cX4_bitsOfFreshness 48 = .ok (.iload_n 2, 1) := by decide +kernel
theorem dX4_bitsOfFreshness_49 : decode cX4_bitsOfFreshness 49 = .ok (.bipush 127, 2) := by decide +kernel
theorem dX4_bitsOfFreshness_51 : decode cX4_bitsOfFreshness 51 = .ok (.iadd, 1) := by decide +kernel
theorem dX4_bitsOfFreshness_52 : decode cX4_bitsOfFreshness 52 = .ok (.bipush 23, 2) := by decide +kernel
theorem dX4_bitsOfFreshness_54 : decode cX4_bitsOfFreshness 54 = .ok (.ishl, 1) := by decide +kernel
theorem dX4_bitsOfFreshness_55 : decode cX4_bitsOfFreshness 55 = .ok (.fload_n 1, 1) := by decide +kernel
theorem dX4_bitsOfFreshness_56 : decode cX4_bitsOfFreshness 56 = .ok (.fconst 1, 1) := by decide +kernel
theorem dX4_bitsOfFreshness_57 : decode cX4_bitsOfFreshness 57 = .ok (.fsub, 1) := by decide +kernel
theorem dX4_bitsOfFreshness_58 : decode cX4_bitsOfFreshness 58 = .ok (.ldc_w 367, 3) := by decide +kernel
theorem dX4_bitsOfFreshness_61 : decode cX4_bitsOfFreshness 61 = .ok (.fmul, 1) := by decide +kernel
theorem dX4_bitsOfFreshness_62 : decode cX4_bitsOfFreshness 62 = .ok (.f2i, 1) := by decide +kernel
theorem dX4_bitsOfFreshness_63 : decode cX4_bitsOfFreshness 63 = .ok (.iadd, 1) := by decide +kernel
theorem dX4_bitsOfFreshness_64 : decode cX4_bitsOfFreshness 64 = .ok (.ireturn, 1) := by decide +kernel
theorem dX4_bitsOfMean_0 : decode cX4_bitsOfMean 0 = .ok (.dload_n 0, 1) := by decide +kernel
theorem dX4_bitsOfMean_1 : decode cX4_bitsOfMean 1 = .ok (.dconst 0, 1) := by decide +kernel
theorem dX4_bitsOfMean_2 : decode cX4_bitsOfMean 2 = .ok (.dcmp .l, 1) := by decide +kernel
theorem dX4_bitsOfMean_3 : decode cX4_bitsOfMean 3 = .ok (.ifCond .ne 5, 3) := by decide +kernel
theorem dX4_bitsOfMean_6 : decode cX4_bitsOfMean 6 = .ok (.lconst 0, 1) := by decide +kernel
theorem dX4_bitsOfMean_7 : decode cX4_bitsOfMean 7 = .ok (.lreturn, 1) := by decide +kernel
theorem dX4_bitsOfMean_8 : decode cX4_bitsOfMean 8 = .ok (.dload_n 0, 1) := by decide +kernel
theorem dX4_bitsOfMean_9 : decode cX4_bitsOfMean 9 = .ok (.dstore_n 2, 1) := by decide +kernel
theorem dX4_bitsOfMean_10 : decode cX4_bitsOfMean 10 = .ok (.iconst 0, 1) := by decide +kernel
theorem dX4_bitsOfMean_11 : decode cX4_bitsOfMean 11 = .ok (.istore 4, 2) := by decide +kernel
theorem dX4_bitsOfMean_13 : decode cX4_bitsOfMean 13 = .ok (.dload_n 2, 1) := by decide +kernel
theorem dX4_bitsOfMean_14 : decode cX4_bitsOfMean 14 = .ok (.ldc2_w 368, 3) := by decide +kernel
theorem dX4_bitsOfMean_17 : decode cX4_bitsOfMean 17 = .ok (.dcmp .l, 1) := by decide +kernel
theorem dX4_bitsOfMean_18 : decode cX4_bitsOfMean 18 = .ok (.ifCond .lt 23, 3) := by decide +kernel
theorem dX4_bitsOfMean_21 : decode cX4_bitsOfMean 21 = .ok (.iload 4, 2) := by decide +kernel
theorem dX4_bitsOfMean_23 : decode cX4_bitsOfMean 23 = .ok (.sipush 1023, 3) := by decide +kernel
theorem dX4_bitsOfMean_26 : decode cX4_bitsOfMean 26 = .ok (.if_icmp .ge 15, 3) := by decide +kernel
theorem dX4_bitsOfMean_29 : decode cX4_bitsOfMean 29 = .ok (.dload_n 2, 1) := by decide +kernel
theorem dX4_bitsOfMean_30 : decode cX4_bitsOfMean 30 = .ok (.ldc2_w 368, 3) := by decide +kernel
theorem dX4_bitsOfMean_33 : decode cX4_bitsOfMean 33 = .ok (.ddiv, 1) := by decide +kernel
theorem dX4_bitsOfMean_34 : decode cX4_bitsOfMean 34 = .ok (.dstore_n 2, 1) := by decide +kernel
theorem dX4_bitsOfMean_35 : decode cX4_bitsOfMean 35 = .ok (.iinc 4 1, 3) := by decide +kernel
theorem dX4_bitsOfMean_38 : decode cX4_bitsOfMean 38 = .ok (.goto (-25), 3) := by decide +kernel
theorem dX4_bitsOfMean_41 : decode cX4_bitsOfMean 41 = .ok (.dload_n 2, 1) := by decide +kernel
theorem dX4_bitsOfMean_42 : decode cX4_bitsOfMean 42 = .ok (.dconst 1, 1) := by decide +kernel
theorem dX4_bitsOfMean_43 : decode cX4_bitsOfMean 43 = .ok (.dcmp .g, 1) := by decide +kernel
theorem dX4_bitsOfMean_44 : decode cX4_bitsOfMean 44 = .ok (.ifCond .ge 23, 3) := by decide +kernel
theorem dX4_bitsOfMean_47 : decode cX4_bitsOfMean 47 = .ok (.iload 4, 2) := by decide +kernel
theorem dX4_bitsOfMean_49 : decode cX4_bitsOfMean 49 = .ok (.sipush (-1022), 3) := by decide +kernel
theorem dX4_bitsOfMean_52 : decode cX4_bitsOfMean 52 = .ok (.if_icmp .le 15, 3) := by decide +kernel
theorem dX4_bitsOfMean_55 : decode cX4_bitsOfMean 55 = .ok (.dload_n 2, 1) := by decide +kernel
theorem dX4_bitsOfMean_56 : decode cX4_bitsOfMean 56 = .ok (.ldc2_w 368, 3) := by decide +kernel
theorem dX4_bitsOfMean_59 : decode cX4_bitsOfMean 59 = .ok (.dmul, 1) := by decide +kernel
theorem dX4_bitsOfMean_60 : decode cX4_bitsOfMean 60 = .ok (.dstore_n 2, 1) := by decide +kernel
theorem dX4_bitsOfMean_61 : decode cX4_bitsOfMean 61 = .ok (.iinc 4 (-1), 3) := by decide +kernel
theorem dX4_bitsOfMean_64 : decode cX4_bitsOfMean 64 = .ok (.goto (-23), 3) := by decide +kernel
theorem dX4_bitsOfMean_67 : decode cX4_bitsOfMean 67 = .ok (.iload 4, 2) := by decide +kernel
theorem dX4_bitsOfMean_69 : decode cX4_bitsOfMean 69 = .ok (.sipush 1023, 3) := by decide +kernel
theorem dX4_bitsOfMean_72 : decode cX4_bitsOfMean 72 = .ok (.iadd, 1) := by decide +kernel
theorem dX4_bitsOfMean_73 : decode cX4_bitsOfMean 73 = .ok (.i2l, 1) := by decide +kernel
theorem dX4_bitsOfMean_74 : decode cX4_bitsOfMean 74 = .ok (.bipush 52, 2) := by decide +kernel
theorem dX4_bitsOfMean_76 : decode cX4_bitsOfMean 76 = .ok (.lshl, 1) := by decide +kernel
theorem dX4_bitsOfMean_77 : decode cX4_bitsOfMean 77 = .ok (.dload_n 2, 1) := by decide +kernel
theorem dX4_bitsOfMean_78 : decode cX4_bitsOfMean 78 = .ok (.dconst 1, 1) := by decide +kernel
theorem dX4_bitsOfMean_79 : decode cX4_bitsOfMean 79 = .ok (.dsub, 1) := by decide +kernel
theorem dX4_bitsOfMean_80 : decode cX4_bitsOfMean 80 = .ok (.ldc2_w 370, 3) := by decide +kernel
theorem dX4_bitsOfMean_83 : decode cX4_bitsOfMean 83 = .ok (.dmul, 1) := by decide +kernel
theorem dX4_bitsOfMean_84 : decode cX4_bitsOfMean 84 = .ok (.d2l, 1) := by decide +kernel
theorem dX4_bitsOfMean_85 : decode cX4_bitsOfMean 85 = .ok (.ladd, 1) := by decide +kernel
theorem dX4_bitsOfMean_86 : decode cX4_bitsOfMean 86 = .ok (.lreturn, 1) := by decide +kernel
