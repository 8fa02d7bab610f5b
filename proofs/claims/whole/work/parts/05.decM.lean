theorem dX5_init_0 : decode cX5_init 0 = .ok (.aload_n 0, 1) := by decide +kernel
theorem dX5_init_1 : decode cX5_init 1 = .ok (.invokespecial 1, 3) := by decide +kernel
theorem dX5_init_4 : decode cX5_init 4 = .ok (.aload_n 0, 1) := by decide +kernel
theorem dX5_init_5 : decode cX5_init 5 = .ok (.bipush 24, 2) := by decide +kernel
theorem dX5_init_7 : decode cX5_init 7 = .ok (.newarray .int, 2) := by decide +kernel
theorem dX5_init_9 : decode cX5_init 9 = .ok (.putfield 9, 3) := by decide +kernel
theorem dX5_init_12 : decode cX5_init 12 = .ok (.aload_n 0, 1) := by decide +kernel
theorem dX5_init_13 : decode cX5_init 13 = .ok (.sipush 480, 3) := by decide +kernel
theorem dX5_init_16 : decode cX5_init 16 = .ok (.newarray .int, 2) := by decide +kernel
theorem dX5_init_18 : decode cX5_init 18 = .ok (.putfield 13, 3) := by decide +kernel
theorem dX5_init_21 : decode cX5_init 21 = .ok (.aload_n 0, 1) := by decide +kernel
theorem dX5_init_22 : decode cX5_init 22 = .ok (.bipush 20, 2) := by decide +kernel
theorem dX5_init_24 : decode cX5_init 24 = .ok (.newarray .int, 2) := by decide +kernel
theorem dX5_init_26 : decode cX5_init 26 = .ok (.putfield 16, 3) := by decide +kernel
theorem dX5_init_29 : decode cX5_init 29 = .ok (.aload_n 0, 1) := by decide +kernel
theorem dX5_init_30 : decode cX5_init 30 = .ok (.bipush 20, 2) := by decide +kernel
theorem dX5_init_32 : decode cX5_init 32 = .ok (.newarray .int, 2) := by decide +kernel
theorem dX5_init_34 : decode cX5_init 34 = .ok (.putfield 19, 3) := by decide +kernel
theorem dX5_init_37 : decode cX5_init 37 = .ok (.aload_n 0, 1) := by decide +kernel
theorem dX5_init_38 : decode cX5_init 38 = .ok (.bipush 20, 2) := by decide +kernel
theorem dX5_init_40 : decode cX5_init 40 = .ok (.newarray .int, 2) := by decide +kernel
theorem dX5_init_42 : decode cX5_init 42 = .ok (.putfield 22, 3) := by decide +kernel
theorem dX5_init_45 : decode cX5_init 45 = .ok (.aload_n 0, 1) := by decide +kernel
theorem dX5_init_46 : decode cX5_init 46 = .ok (.bipush 20, 2) := by decide +kernel
theorem dX5_init_48 : decode cX5_init 48 = .ok (.newarray .boolean, 2) := by decide +kernel
theorem dX5_init_50 : decode cX5_init 50 = .ok (.putfield 25, 3) := by decide +kernel
theorem dX5_init_53 : decode cX5_init 53 = .ok (.aload_n 0, 1) := by decide +kernel
theorem dX5_init_54 : decode cX5_init 54 = .ok (.bipush 20, 2) := by decide +kernel
theorem dX5_init_56 : decode cX5_init 56 = .ok (.newarray .char, 2) := by decide +kernel
theorem dX5_init_58 : decode cX5_init 58 = .ok (.putfield 29, 3) := by decide +kernel
theorem dX5_init_61 : decode cX5_init 61 = .ok (.aload_n 0, 1) := by decide +kernel
theorem dX5_init_62 : decode cX5_init 62 = .ok (.bipush 20, 2) := by decide +kernel
theorem dX5_init_64 : decode cX5_init 64 = .ok (.newarray .float, 2) := by decide +kernel
theorem dX5_init_66 : decode cX5_init 66 = .ok (.putfield 33, 3) := by decide +kernel
theorem dX5_init_69 : decode cX5_init 69 = .ok (.aload_n 0, 1) := by decide +kernel
theorem dX5_init_70 : decode cX5_init 70 = .ok (.bipush 20, 2) := by decide +kernel
theorem dX5_init_72 : decode cX5_init 72 = .ok (.newarray .int, 2) := by decide +kernel
theorem dX5_init_74 : decode cX5_init 74 = .ok (.putfield 37, 3) := by decide +kernel
theorem dX5_init_77 : decode cX5_init 77 = .ok (.aload_n 0, 1) := by decide +kernel
theorem dX5_init_78 : decode cX5_init 78 = .ok (.bipush 20, 2) := by decide +kernel
theorem dX5_init_80 : decode cX5_init 80 = .ok (.newarray .int, 2) := by decide +kernel
theorem dX5_init_82 : decode cX5_init 82 = .ok (.putfield 40, 3) := by decide +kernel
theorem dX5_init_85 : decode cX5_init 85 = .ok (.aload_n 0, 1) := by decide +kernel
theorem dX5_init_86 : decode cX5_init 86 = .ok (.bipush 20, 2) := by decide +kernel
theorem dX5_init_88 : decode cX5_init 88 = .ok (.newarray .int, 2) := by decide +kernel
theorem dX5_init_90 : decode cX5_init 90 = .ok (.putfield 43, 3) := by decide +kernel
theorem dX5_init_93 : decode cX5_init 93 = .ok (.aload_n 0, 1) := by decide +kernel
theorem dX5_init_94 : decode cX5_init 94 = .ok (.iconst 5, 1) := by decide +kernel
theorem dX5_init_95 : decode cX5_init 95 = .ok (.newarray .int, 2) := by decide +kernel
theorem dX5_init_97 : decode cX5_init 97 = .ok (.putfield 46, 3) := by decide +kernel
theorem dX5_init_100 : decode cX5_init 100 = .ok (.aload_n 0, 1) := by decide +kernel
theorem dX5_init_101 : decode cX5_init 101 = .ok (.bipush 20, 2) := by decide +kernel
theorem dX5_init_103 : decode cX5_init 103 = .ok (.newarray .int, 2) := by decide +kernel
theorem dX5_init_105 : decode cX5_init 105 = .ok (.putfield 49, 3) := by decide +kernel
theorem dX5_init_108 : decode cX5_init 108 = .ok (.aload_n 0, 1) := by decide +kernel
theorem dX5_init_109 : decode cX5_init 109 = .ok (.sipush 1000, 3) := by decide +kernel
theorem dX5_init_112 : decode cX5_init 112 = .ok (.putfield 52, 3) := by decide +kernel
theorem dX5_init_115 : decode cX5_init 115 = .ok (.aload_n 0, 1) := by decide +kernel
theorem dX5_init_116 : decode cX5_init 116 = .ok (.bipush 10, 2) := by decide +kernel
theorem dX5_init_118 : decode cX5_init 118 = .ok (.putfield 56, 3) := by decide +kernel
theorem dX5_init_121 : decode cX5_init 121 = .ok (.aload_n 0, 1) := by decide +kernel
theorem dX5_init_122 : decode cX5_init 122 = .ok (.iconst 4, 1) := by decide +kernel
theorem dX5_init_123 : decode cX5_init 123 = .ok (.newarray .int, 2) := by decide +kernel
theorem dX5_init_125 : decode cX5_init 125 = .ok (.putfield 59, 3) := by decide +kernel
theorem dX5_init_128 : decode cX5_init 128 = .ok (.aload_n 0, 1) := by decide +kernel
theorem dX5_init_129 : decode cX5_init 129 = .ok (.iconst 4, 1) := by decide +kernel
theorem dX5_init_130 : decode cX5_init 130 = .ok (.newarray .int, 2) := by decide +kernel
theorem dX5_init_132 : decode cX5_init 132 = .ok (.putfield 62, 3) := by decide +kernel
theorem dX5_init_135 : decode cX5_init 135 = .ok (.aload_n 0, 1) := by decide +kernel
theorem dX5_init_136 : decode cX5_init 136 = .ok (.iconst 4, 1) := by decide +kernel
theorem dX5_init_137 : decode cX5_init 137 = .ok (.newarray .boolean, 2) := by decide +kernel
theorem dX5_init_139 : decode cX5_init 139 = .ok (.putfield 65, 3) := by decide +kernel
theorem dX5_init_142 : decode cX5_init 142 = .ok (.aload_n 0, 1) := by decide +kernel
theorem dX5_init_143 : decode cX5_init 143 = .ok (.iconst 4, 1) := by decide +kernel
theorem dX5_init_144 : decode cX5_init 144 = .ok (.newarray .int, 2) := by decide +kernel
theorem dX5_init_146 : decode cX5_init 146 = .ok (.putfield 68, 3) := by decide +kernel
theorem dX5_init_149 : decode cX5_init 149 = .ok (.aload_n 0, 1) := by decide +kernel
theorem dX5_init_150 : decode cX5_init 150 = .ok (.bipush 20, 2) := by decide +kernel
theorem dX5_init_152 : decode cX5_init 152 = .ok (.newarray .int, 2) := by decide +kernel
theorem dX5_init_154 : decode cX5_init 154 = .ok (.putfield 71, 3) := by decide +kernel
theorem dX5_init_157 : decode cX5_init 157 = .ok (.return_, 1) := by decide +kernel
theorem dX5_thrown_0 : decode cX5_thrown 0 = .ok (.aload_n 0, 1) := by decide +kernel
theorem dX5_thrown_1 : decode cX5_thrown 1 = .ok (.getfield 74, 3) := by decide +kernel
theorem dX5_thrown_4 : decode cX5_thrown 4 = .ok (.ireturn, 1) := by decide +kernel
theorem dX5_in_0 : decode cX5_in 0 = .ok (.iload_n 0, 1) := by decide +kernel
theorem dX5_in_1 : decode cX5_in 1 = .ok (.iload_n 1, 1) := by decide +kernel
theorem dX5_in_2 : decode cX5_in 2 = .ok (.if_icmp .lt 12, 3) := by decide +kernel
theorem dX5_in_5 : decode cX5_in 5 = .ok (.iload_n 0, 1) := by decide +kernel
theorem dX5_in_6 : decode cX5_in 6 = .ok (.iload_n 2, 1) := by decide +kernel
theorem dX5_in_7 : decode cX5_in 7 = .ok (.if_icmp .gt 7, 3) := by decide +kernel
theorem dX5_in_10 : decode cX5_in 10 = .ok (.iconst 1, 1) := by decide +kernel
theorem dX5_in_11 : decode cX5_in 11 = .ok (.goto 4, 3) := by decide +kernel
theorem dX5_in_14 : decode cX5_in 14 = .ok (.iconst 0, 1) := by decide +kernel
theorem dX5_in_15 : decode cX5_in 15 = .ok (.ireturn, 1) := by decide +kernel
theorem dX5_goesOn_0 : decode cX5_goesOn 0 = .ok (.aload_n 0, 1) := by decide +kernel
theorem dX5_goesOn_1 : decode cX5_goesOn 1 = .ok (.iload_n 1, 1) := by decide +kernel
theorem dX5_goesOn_2 : decode cX5_goesOn 2 = .ok (.putfield 74, 3) := by decide +kernel
theorem dX5_goesOn_5 : decode cX5_goesOn 5 = .ok (.iload_n 1, 1) := by decide +kernel
theorem dX5_goesOn_6 : decode cX5_goesOn 6 = .ok (.ifCond .ne 7, 3) := by decide +kernel
theorem dX5_goesOn_9 : decode cX5_goesOn 9 = .ok (.iconst 1, 1) := by decide +kernel
theorem dX5_goesOn_10 : decode cX5_goesOn 10 = .ok (.goto 4, 3) := by decide +kernel
theorem dX5_goesOn_13 : decode cX5_goesOn 13 = .ok (.iconst 0, 1) := by decide +kernel
theorem dX5_goesOn_14 : decode cX5_goesOn 14 = .ok (.ireturn, 1) := by decide +kernel
theorem dX5_isBoat_0 : decode cX5_isBoat 0 = .ok (.iload_n 1, 1) := by decide +kernel
theorem dX5_isBoat_1 : decode cX5_isBoat 1 = .ok (.iconst 0, 1) := by decide +kernel
theorem dX5_isBoat_2 : decode cX5_isBoat 2 = .ok (.aload_n 0, 1) := by decide +kernel
theorem dX5_isBoat_3 : decode cX5_isBoat 3 = .ok (.getfield 77, 3) := by decide +kernel
theorem dX5_isBoat_6 : decode cX5_isBoat 6 = .ok (.iconst 1, 1) := by decide +kernel
theorem dX5_isBoat_7 : decode cX5_isBoat 7 = .ok (.isub, 1) := by decide +kernel
theorem dX5_isBoat_8 : decode cX5_isBoat 8 = .ok (.invokestatic 80, 3) := by decide +kernel
theorem dX5_isBoat_11 : decode cX5_isBoat 11 = .ok (.ireturn, 1) := by decide +kernel
theorem dX5_isLot_0 : decode cX5_isLot 0 = .ok (.iload_n 1, 1) := by decide +kernel
theorem dX5_isLot_1 : decode cX5_isLot 1 = .ok (.iconst 0, 1) := by decide +kernel
theorem dX5_isLot_2 : decode cX5_isLot 2 = .ok (.aload_n 0, 1) := by decide +kernel
theorem dX5_isLot_3 : decode cX5_isLot 3 = .ok (.getfield 84, 3) := by decide +kernel
theorem dX5_isLot_6 : decode cX5_isLot 6 = .ok (.iconst 1, 1) := by decide +kernel
theorem dX5_isLot_7 : decode cX5_isLot 7 = .ok (.isub, 1) := by decide +kernel
theorem dX5_isLot_8 : decode cX5_isLot 8 = .ok (.invokestatic 80, 3) := by decide +kernel
theorem dX5_isLot_11 : decode cX5_isLot 11 = .ok (.ireturn, 1) := by decide +kernel
theorem dX5_isBuyer_0 : decode cX5_isBuyer 0 = .ok (.iload_n 1, 1) := by decide +kernel
theorem dX5_isBuyer_1 : decode cX5_isBuyer 1 = .ok (.iconst 0, 1) := by decide +kernel
theorem dX5_isBuyer_2 : decode cX5_isBuyer 2 = .ok (.aload_n 0, 1) := by decide +kernel
theorem dX5_isBuyer_3 : decode cX5_isBuyer 3 = .ok (.getfield 87, 3) := by decide +kernel
theorem dX5_isBuyer_6 : decode cX5_isBuyer 6 = .ok (.iconst 1, 1) := by decide +kernel
theorem dX5_isBuyer_7 : decode cX5_isBuyer 7 = .ok (.isub, 1) := by decide +kernel
theorem dX5_isBuyer_8 : decode cX5_isBuyer 8 = .ok (.invokestatic 80, 3) := by decide +kernel
theorem dX5_isBuyer_11 : decode cX5_isBuyer 11 = .ok (.ireturn, 1) := by decide +kernel
theorem dX5_isTruck_0 : decode cX5_isTruck 0 = .ok (.iload_n 1, 1) := by decide +kernel
theorem dX5_isTruck_1 : decode cX5_isTruck 1 = .ok (.iconst 0, 1) := by decide +kernel
theorem dX5_isTruck_2 : decode cX5_isTruck 2 = .ok (.aload_n 0, 1) := by decide +kernel
theorem dX5_isTruck_3 : decode cX5_isTruck 3 = .ok (.getfield 90, 3) := by decide +kernel
theorem dX5_isTruck_6 : decode cX5_isTruck 6 = .ok (.iconst 1, 1) := by decide +kernel
theorem dX5_isTruck_7 : decode cX5_isTruck 7 = .ok (.isub, 1) := by decide +kernel
theorem dX5_isTruck_8 : decode cX5_isTruck 8 = .ok (.invokestatic 80, 3) := by decide +kernel
theorem dX5_isTruck_11 : decode cX5_isTruck 11 = .ok (.ireturn, 1) := by decide +kernel
theorem dX5_isSpecies_0 : decode cX5_isSpecies 0 = .ok (.iload_n 0, 1) := by decide +kernel
theorem dX5_isSpecies_1 : decode cX5_isSpecies 1 = .ok (.iconst 0, 1) := by decide +kernel
theorem dX5_isSpecies_2 : decode cX5_isSpecies 2 = .ok (.iconst 3, 1) := by decide +kernel
theorem dX5_isSpecies_3 : decode cX5_isSpecies 3 = .ok (.invokestatic 80, 3) := by decide +kernel
theorem dX5_isSpecies_6 : decode cX5_isSpecies 6 = .ok (.ireturn, 1) := by decide +kernel
theorem dX5_addBoat_0 : decode cX5_addBoat 0 = .ok (.iload_n 1, 1) := by decide +kernel
theorem dX5_addBoat_1 : decode cX5_addBoat 1 = .ok (.iconst 0, 1) := by decide +kernel
theorem dX5_addBoat_2 : decode cX5_addBoat 2 = .ok (.sipush 9999, 3) := by decide +kernel
theorem dX5_addBoat_5 : decode cX5_addBoat 5 = .ok (.invokestatic 80, 3) := by decide +kernel
theorem dX5_addBoat_8 : decode cX5_addBoat 8 = .ok (.ifCond .eq 41, 3) := by decide +kernel
theorem dX5_addBoat_11 : decode cX5_addBoat 11 = .ok (.iload_n 2, 1) := by decide +kernel
theorem dX5_addBoat_12 : decode cX5_addBoat 12 = .ok (.iconst 0, 1) := by decide +kernel
theorem dX5_addBoat_13 : decode cX5_addBoat 13 = .ok (.sipush 9999, 3) := by decide +kernel
theorem dX5_addBoat_16 : decode cX5_addBoat 16 = .ok (.invokestatic 80, 3) := by decide +kernel
theorem dX5_addBoat_19 : decode cX5_addBoat 19 = .ok (.ifCond .eq 30, 3) := by decide +kernel
theorem dX5_addBoat_22 : decode cX5_addBoat 22 = .ok (.iload_n 3, 1) := by decide +kernel
theorem dX5_addBoat_23 : decode cX5_addBoat 23 = .ok (.iconst 0, 1) := by decide +kernel
theorem dX5_addBoat_24 : decode cX5_addBoat 24 = .ok (.sipush 9999, 3) := by decide +kernel
theorem dX5_addBoat_27 : decode cX5_addBoat 27 = .ok (.invokestatic 80, 3) := by decide +kernel
theorem dX5_addBoat_30 : decode cX5_addBoat 30 = .ok (.ifCond .eq 19, 3) := by decide +kernel
theorem dX5_addBoat_33 : decode cX5_addBoat 33 = .ok (.iload 4, 2) := by decide +kernel
theorem dX5_addBoat_35 : decode cX5_addBoat 35 = .ok (.iconst 0, 1) := by decide +kernel
theorem dX5_addBoat_36 : decode cX5_addBoat 36 = .ok (.sipush 9999, 3) := by decide +kernel
theorem dX5_addBoat_39 : decode cX5_addBoat 39 = .ok (.invokestatic 80, 3) := by decide +kernel
theorem dX5_addBoat_42 : decode cX5_addBoat 42 = .ok (.ifCond .eq 7, 3) := by decide +kernel
theorem dX5_addBoat_45 : decode cX5_addBoat 45 = .ok (.iconst 1, 1) := by decide +kernel
theorem dX5_addBoat_46 : decode cX5_addBoat 46 = .ok (.goto 4, 3) := by decide +kernel
theorem dX5_addBoat_49 : decode cX5_addBoat 49 = .ok (.iconst 0, 1) := by decide +kernel
theorem dX5_addBoat_50 : decode cX5_addBoat 50 = .ok (.istore 5, 2) := by decide +kernel
theorem dX5_addBoat_52 : decode cX5_addBoat 52 = .ok (.aload_n 0, 1) := by decide +kernel
theorem dX5_addBoat_53 : decode cX5_addBoat 53 = .ok (.iload 5, 2) := by decide +kernel
theorem dX5_addBoat_55 : decode cX5_addBoat 55 = .ok (.ifCond .ne 7, 3) := by decide +kernel
theorem dX5_addBoat_58 : decode cX5_addBoat 58 = .ok (.iconst 1, 1) := by decide +kernel
theorem dX5_addBoat_59 : decode cX5_addBoat 59 = .ok (.goto 17, 3) := by decide +kernel
theorem dX5_addBoat_62 : decode cX5_addBoat 62 = .ok (.aload_n 0, 1) := by decide +kernel
theorem dX5_addBoat_63 : decode cX5_addBoat 63 = .ok (.getfield 77, 3) := by decide +kernel
theorem dX5_addBoat_66 : decode cX5_addBoat 66 = .ok (.bipush 6, 2) := by decide +kernel
theorem dX5_addBoat_68 : decode cX5_addBoat 68 = .ok (.if_icmp .ne 7, 3) := by decide +kernel
theorem dX5_addBoat_71 : decode cX5_addBoat 71 = .ok (.iconst 2, 1) := by decide +kernel
theorem dX5_addBoat_72 : decode cX5_addBoat 72 = .ok (.goto 4, 3) := by decide +kernel
theorem dX5_addBoat_75 : decode cX5_addBoat 75 = .ok (.iconst 0, 1) := by decide +kernel
theorem dX5_addBoat_76 : decode cX5_addBoat 76 = .ok (.invokevirtual 93, 3) := by decide +kernel
theorem dX5_addBoat_79 : decode cX5_addBoat 79 = .ok (.ifCond .ne 5, 3) := by decide +kernel
theorem dX5_addBoat_82 : decode cX5_addBoat 82 = .ok (.iconst 0, 1) := by decide +kernel
theorem dX5_addBoat_83 : decode cX5_addBoat 83 = .ok (.ireturn, 1) := by decide +kernel
theorem dX5_addBoat_84 : decode cX5_addBoat 84 = .ok (.aload_n 0, 1) := by decide +kernel
theorem dX5_addBoat_85 : decode cX5_addBoat 85 = .ok (.getfield 9, 3) := by decide +kernel
theorem dX5_addBoat_88 : decode cX5_addBoat 88 = .ok (.iconst 4, 1) := by decide +kernel
theorem dX5_addBoat_89 : decode cX5_addBoat 89 = .ok (.aload_n 0, 1) := by decide +kernel
theorem dX5_addBoat_90 : decode cX5_addBoat 90 = .ok (.getfield 77, 3) := by decide +kernel
theorem dX5_addBoat_93 : decode cX5_addBoat 93 = .ok (.imul, 1) := by decide +kernel
theorem dX5_addBoat_94 : decode cX5_addBoat 94 = .ok (.iload_n 1, 1) := by decide +kernel
theorem dX5_addBoat_95 : decode cX5_addBoat 95 = .ok (.iastore, 1) := by decide +kernel
theorem dX5_addBoat_96 : decode cX5_addBoat 96 = .ok (.aload_n 0, 1) := by decide +kernel
theorem dX5_addBoat_97 : decode cX5_addBoat 97 = .ok (.getfield 9, 3) := by decide +kernel
theorem dX5_addBoat_100 : decode cX5_addBoat 100 = .ok (.iconst 4, 1) := by decide +kernel
theorem dX5_addBoat_101 : decode cX5_addBoat 101 = .ok (.aload_n 0, 1) := by decide +kernel
theorem dX5_addBoat_102 : decode cX5_addBoat 102 = .ok (.getfield 77, 3) := by decide +kernel
theorem dX5_addBoat_105 : decode cX5_addBoat 105 = .ok (.imul, 1) := by decide +kernel
theorem dX5_addBoat_106 : decode cX5_addBoat 106 = .ok (.iconst 1, 1) := by decide +kernel
theorem dX5_addBoat_107 : decode cX5_addBoat 107 = .ok (.iadd, 1) := by decide +kernel
theorem dX5_addBoat_108 : decode cX5_addBoat 108 = .ok (.iload_n 2, 1) := by decide +kernel
theorem dX5_addBoat_109 : decode cX5_addBoat 109 = .ok (.iastore, 1) := by decide +kernel
theorem dX5_addBoat_110 : decode cX5_addBoat 110 = .ok (.aload_n 0, 1) := by decide +kernel
theorem dX5_addBoat_111 : decode cX5_addBoat 111 = .ok (.getfield 9, 3) := by decide +kernel
theorem dX5_addBoat_114 : decode cX5_addBoat 114 = .ok (.iconst 4, 1) := by decide +kernel
theorem dX5_addBoat_115 : decode cX5_addBoat 115 = .ok (.aload_n 0, 1) := by decide +kernel
theorem dX5_addBoat_116 : decode cX5_addBoat 116 = .ok (.getfield 77, 3) := by decide +kernel
theorem dX5_addBoat_119 : decode cX5_addBoat 119 = .ok (.imul, 1) := by decide +kernel
theorem dX5_addBoat_120 : decode cX5_addBoat 120 = .ok (.iconst 2, 1) := by decide +kernel
theorem dX5_addBoat_121 : decode cX5_addBoat 121 = .ok (.iadd, 1) := by decide +kernel
theorem dX5_addBoat_122 : decode cX5_addBoat 122 = .ok (.iload_n 3, 1) := by decide +kernel
theorem dX5_addBoat_123 : decode cX5_addBoat 123 = .ok (.iastore, 1) := by decide +kernel
theorem dX5_addBoat_124 : decode cX5_addBoat 124 = .ok (.aload_n 0, 1) := by decide +kernel
theorem dX5_addBoat_125 : decode cX5_addBoat 125 = .ok (.getfield 9, 3) := by decide +kernel
theorem dX5_addBoat_128 : decode cX5_addBoat 128 = .ok (.iconst 4, 1) := by decide +kernel
theorem dX5_addBoat_129 : decode cX5_addBoat 129 = .ok (.aload_n 0, 1) := by decide +kernel
theorem dX5_addBoat_130 : decode cX5_addBoat 130 = .ok (.getfield 77, 3) := by decide +kernel
theorem dX5_addBoat_133 : decode cX5_addBoat 133 = .ok (.imul, 1) := by decide +kernel
theorem dX5_addBoat_134 : decode cX5_addBoat 134 = .ok (.iconst 3, 1) := by decide +kernel
theorem dX5_addBoat_135 : decode cX5_addBoat 135 = .ok (.iadd, 1) := by decide +kernel
theorem dX5_addBoat_136 : decode cX5_addBoat 136 = .ok (.iload 4, 2) := by decide +kernel
theorem dX5_addBoat_138 : decode cX5_addBoat 138 = .ok (.iastore, 1) := by decide +kernel
theorem dX5_addBoat_139 : decode cX5_addBoat 139 = .ok (.aload_n 0, 1) := by decide +kernel
theorem dX5_addBoat_140 : decode cX5_addBoat 140 = .ok (.dup, 1) := by decide +kernel
theorem dX5_addBoat_141 : decode cX5_addBoat 141 = .ok (.getfield 77, 3) := by decide +kernel
theorem dX5_addBoat_144 : decode cX5_addBoat 144 = .ok (.iconst 1, 1) := by decide +kernel
theorem dX5_addBoat_145 : decode cX5_addBoat 145 = .ok (.iadd, 1) := by decide +kernel
theorem dX5_addBoat_146 : decode cX5_addBoat 146 = .ok (.putfield 77, 3) := by decide +kernel
theorem dX5_addBoat_149 : decode cX5_addBoat 149 = .ok (.aload_n 0, 1) := by decide +kernel
theorem dX5_addBoat_150 : decode cX5_addBoat 150 = .ok (.getfield 77, 3) := by decide +kernel
theorem dX5_addBoat_153 : decode cX5_addBoat 153 = .ok (.iconst 1, 1) := by decide +kernel
theorem dX5_addBoat_154 : decode cX5_addBoat 154 = .ok (.isub, 1) := by decide +kernel
theorem dX5_addBoat_155 : decode cX5_addBoat 155 = .ok (.ireturn, 1) := by decide +kernel
theorem dX5_land_0 : decode cX5_land 0 = .ok (.iload_n 2, 1) := by decide +kernel
theorem dX5_land_1 : decode cX5_land 1 = .ok (.invokestatic 97, 3) := by decide +kernel
theorem dX5_land_4 : decode cX5_land 4 = .ok (.ifCond .eq 24, 3) := by decide +kernel
theorem dX5_land_7 : decode cX5_land 7 = .ok (.iload_n 3, 1) := by decide +kernel
theorem dX5_land_8 : decode cX5_land 8 = .ok (.iconst 0, 1) := by decide +kernel
theorem dX5_land_9 : decode cX5_land 9 = .ok (.iconst 2, 1) := by decide +kernel
theorem dX5_land_10 : decode cX5_land 10 = .ok (.invokestatic 80, 3) := by decide +kernel
theorem dX5_land_13 : decode cX5_land 13 = .ok (.ifCond .eq 15, 3) := by decide +kernel
theorem dX5_land_16 : decode cX5_land 16 = .ok (.iload 4, 2) := by decide +kernel
theorem dX5_land_18 : decode cX5_land 18 = .ok (.iconst 1, 1) := by decide +kernel
theorem dX5_land_19 : decode cX5_land 19 = .ok (.sipush 2000, 3) := by decide +kernel
theorem dX5_land_22 : decode cX5_land 22 = .ok (.invokestatic 80, 3) := by decide +kernel
theorem dX5_land_25 : decode cX5_land 25 = .ok (.ifCond .ne 7, 3) := by decide +kernel
theorem dX5_land_28 : decode cX5_land 28 = .ok (.iconst 1, 1) := by decide +kernel
theorem dX5_land_29 : decode cX5_land 29 = .ok (.goto 4, 3) := by decide +kernel
theorem dX5_land_32 : decode cX5_land 32 = .ok (.iconst 0, 1) := by decide +kernel
theorem dX5_land_33 : decode cX5_land 33 = .ok (.istore 6, 2) := by decide +kernel
theorem dX5_land_35 : decode cX5_land 35 = .ok (.aload_n 0, 1) := by decide +kernel
theorem dX5_land_36 : decode cX5_land 36 = .ok (.iload_n 1, 1) := by decide +kernel
theorem dX5_land_37 : decode cX5_land 37 = .ok (.invokevirtual 100, 3) := by decide +kernel
theorem dX5_land_40 : decode cX5_land 40 = .ok (.ifCond .ne 7, 3) := by decide +kernel
theorem dX5_land_43 : decode cX5_land 43 = .ok (.iconst 1, 1) := by decide +kernel
theorem dX5_land_44 : decode cX5_land 44 = .ok (.goto 43, 3) := by decide +kernel
theorem dX5_land_47 : decode cX5_land 47 = .ok (.iload 6, 2) := by decide +kernel
theorem dX5_land_49 : decode cX5_land 49 = .ok (.ifCond .eq 7, 3) := by decide +kernel
theorem dX5_land_52 : decode cX5_land 52 = .ok (.iconst 2, 1) := by decide +kernel
theorem dX5_land_53 : decode cX5_land 53 = .ok (.goto 34, 3) := by decide +kernel
theorem dX5_land_56 : decode cX5_land 56 = .ok (.aload_n 0, 1) := by decide +kernel
theorem dX5_land_57 : decode cX5_land 57 = .ok (.getfield 84, 3) := by decide +kernel
theorem dX5_land_60 : decode cX5_land 60 = .ok (.bipush 20, 2) := by decide +kernel
theorem dX5_land_62 : decode cX5_land 62 = .ok (.if_icmp .ne 7, 3) := by decide +kernel
theorem dX5_land_65 : decode cX5_land 65 = .ok (.iconst 3, 1) := by decide +kernel
theorem dX5_land_66 : decode cX5_land 66 = .ok (.goto 21, 3) := by decide +kernel
theorem dX5_land_69 : decode cX5_land 69 = .ok (.aload_n 0, 1) := by decide +kernel
theorem dX5_land_70 : decode cX5_land 70 = .ok (.getfield 9, 3) := by decide +kernel
theorem dX5_land_73 : decode cX5_land 73 = .ok (.iconst 4, 1) := by decide +kernel
theorem dX5_land_74 : decode cX5_land 74 = .ok (.iload_n 1, 1) := by decide +kernel
theorem dX5_land_75 : decode cX5_land 75 = .ok (.imul, 1) := by decide +kernel
theorem dX5_land_76 : decode cX5_land 76 = .ok (.iload_n 2, 1) := by decide +kernel
theorem dX5_land_77 : decode cX5_land 77 = .ok (.iadd, 1) := by decide +kernel
theorem dX5_land_78 : decode cX5_land 78 = .ok (.iaload, 1) := by decide +kernel
theorem dX5_land_79 : decode cX5_land 79 = .ok (.ifCond .ne 7, 3) := by decide +kernel
theorem dX5_land_82 : decode cX5_land 82 = .ok (.iconst 4, 1) := by decide +kernel
theorem dX5_land_83 : decode cX5_land 83 = .ok (.goto 4, 3) := by decide +kernel
theorem dX5_land_86 : decode cX5_land 86 = .ok (.iconst 0, 1) := by decide +kernel
theorem dX5_land_87 : decode cX5_land 87 = .ok (.istore 7, 2) := by decide +kernel
theorem dX5_land_89 : decode cX5_land 89 = .ok (.aload_n 0, 1) := by decide +kernel
theorem dX5_land_90 : decode cX5_land 90 = .ok (.iload 7, 2) := by decide +kernel
theorem dX5_land_92 : decode cX5_land 92 = .ok (.invokevirtual 93, 3) := by decide +kernel
theorem dX5_land_95 : decode cX5_land 95 = .ok (.ifCond .ne 5, 3) := by decide +kernel
theorem dX5_land_98 : decode cX5_land 98 = .ok (.iconst 0, 1) := by decide +kernel
theorem dX5_land_99 : decode cX5_land 99 = .ok (.ireturn, 1) := by decide +kernel
theorem dX5_land_100 : decode cX5_land 100 = .ok (.aload_n 0, 1) := by decide +kernel
theorem dX5_land_101 : decode cX5_land 101 = .ok (.getfield 9, 3) := by decide +kernel
theorem dX5_land_104 : decode cX5_land 104 = .ok (.iconst 4, 1) := by decide +kernel
theorem dX5_land_105 : decode cX5_land 105 = .ok (.iload_n 1, 1) := by decide +kernel
theorem dX5_land_106 : decode cX5_land 106 = .ok (.imul, 1) := by decide +kernel
theorem dX5_land_107 : decode cX5_land 107 = .ok (.iload_n 2, 1) := by decide +kernel
theorem dX5_land_108 : decode cX5_land 108 = .ok (.iadd, 1) := by decide +kernel
theorem dX5_land_109 : decode cX5_land 109 = .ok (.iaload, 1) := by decide +kernel
theorem dX5_land_110 : decode cX5_land 110 = .ok (.istore 8, 2) := by decide +kernel
theorem dX5_land_112 : decode cX5_land 112 = .ok (.iload 4, 2) := by decide +kernel
theorem dX5_land_114 : decode cX5_land 114 = .ok (.iload 8, 2) := by decide +kernel
theorem dX5_land_116 : decode cX5_land 116 = .ok (.if_icmp .ge 8, 3) := by decide +kernel
theorem dX5_land_119 : decode cX5_land 119 = .ok (.iload 4, 2) := by decide +kernel
theorem dX5_land_121 : decode cX5_land 121 = .ok (.goto 5, 3) := by decide +kernel
theorem dX5_land_124 : decode cX5_land 124 = .ok (.iload 8, 2) := by decide +kernel
theorem dX5_land_126 : decode cX5_land 126 = .ok (.istore 9, 2) := by decide +kernel
theorem dX5_land_128 : decode cX5_land 128 = .ok (.aload_n 0, 1) := by decide +kernel
theorem dX5_land_129 : decode cX5_land 129 = .ok (.getfield 9, 3) := by decide +kernel
theorem dX5_land_132 : decode cX5_land 132 = .ok (.iconst 4, 1) := by decide +kernel
theorem dX5_land_133 : decode cX5_land 133 = .ok (.iload_n 1, 1) := by decide +kernel
theorem dX5_land_134 : decode cX5_land 134 = .ok (.imul, 1) := by decide +kernel
theorem dX5_land_135 : decode cX5_land 135 = .ok (.iload_n 2, 1) := by decide +kernel
theorem dX5_land_136 : decode cX5_land 136 = .ok (.iadd, 1) := by decide +kernel
theorem dX5_land_137 : decode cX5_land 137 = .ok (.dup2, 1) := by decide +kernel
theorem dX5_land_138 : decode cX5_land 138 = .ok (.iaload, 1) := by decide +kernel
theorem dX5_land_139 : decode cX5_land 139 = .ok (.iload 9, 2) := by decide +kernel
theorem dX5_land_141 : decode cX5_land 141 = .ok (.isub, 1) := by decide +kernel
theorem dX5_land_142 : decode cX5_land 142 = .ok (.iastore, 1) := by decide +kernel
theorem dX5_land_143 : decode cX5_land 143 = .ok (.aload_n 0, 1) := by decide +kernel
theorem dX5_land_144 : decode cX5_land 144 = .ok (.dup, 1) := by decide +kernel
theorem dX5_land_145 : decode cX5_land 145 = .ok (.getfield 103, 3) := by decide +kernel
theorem dX5_land_148 : decode cX5_land 148 = .ok (.iload 4, 2) := by decide +kernel
theorem dX5_land_150 : decode cX5_land 150 = .ok (.iload 9, 2) := by decide +kernel
theorem dX5_land_152 : decode cX5_land 152 = .ok (.isub, 1) := by decide +kernel
theorem dX5_land_153 : decode cX5_land 153 = .ok (.iadd, 1) := by decide +kernel
theorem dX5_land_154 : decode cX5_land 154 = .ok (.putfield 103, 3) := by decide +kernel
theorem dX5_land_157 : decode cX5_land 157 = .ok (.aload_n 0, 1) := by decide +kernel
theorem dX5_land_158 : decode cX5_land 158 = .ok (.getfield 16, 3) := by decide +kernel
theorem dX5_land_161 : decode cX5_land 161 = .ok (.aload_n 0, 1) := by decide +kernel
theorem dX5_land_162 : decode cX5_land 162 = .ok (.getfield 84, 3) := by decide +kernel
theorem dX5_land_165 : decode cX5_land 165 = .ok (.iload_n 2, 1) := by decide +kernel
theorem dX5_land_166 : decode cX5_land 166 = .ok (.iastore, 1) := by decide +kernel
theorem dX5_land_167 : decode cX5_land 167 = .ok (.aload_n 0, 1) := by decide +kernel
theorem dX5_land_168 : decode cX5_land 168 = .ok (.getfield 19, 3) := by decide +kernel
theorem dX5_land_171 : decode cX5_land 171 = .ok (.aload_n 0, 1) := by decide +kernel
theorem dX5_land_172 : decode cX5_land 172 = .ok (.getfield 84, 3) := by decide +kernel
theorem dX5_land_175 : decode cX5_land 175 = .ok (.iload_n 3, 1) := by decide +kernel
theorem dX5_land_176 : decode cX5_land 176 = .ok (.iastore, 1) := by decide +kernel
theorem dX5_land_177 : decode cX5_land 177 = .ok (.aload_n 0, 1) := by decide +kernel
theorem dX5_land_178 : decode cX5_land 178 = .ok (.getfield 22, 3) := by decide +kernel
theorem dX5_land_181 : decode cX5_land 181 = .ok (.aload_n 0, 1) := by decide +kernel
theorem dX5_land_182 : decode cX5_land 182 = .ok (.getfield 84, 3) := by decide +kernel
theorem dX5_land_185 : decode cX5_land 185 = .ok (.iload 9, 2) := by decide +kernel
theorem dX5_land_187 : decode cX5_land 187 = .ok (.iastore, 1) := by decide +kernel
theorem dX5_land_188 : decode cX5_land 188 = .ok (.aload_n 0, 1) := by decide +kernel
theorem dX5_land_189 : decode cX5_land 189 = .ok (.getfield 25, 3) := by decide +kernel
theorem dX5_land_192 : decode cX5_land 192 = .ok (.aload_n 0, 1) := by decide +kernel
theorem dX5_land_193 : decode cX5_land 193 = .ok (.getfield 84, 3) := by decide +kernel
theorem dX5_land_196 : decode cX5_land 196 = .ok (.iload 5, 2) := by decide +kernel
theorem dX5_land_198 : decode cX5_land 198 = .ok (.bastore, 1) := by decide +kernel
theorem dX5_land_199 : decode cX5_land 199 = .ok (.aload_n 0, 1) := by decide +kernel
theorem dX5_land_200 : decode cX5_land 200 = .ok (.getfield 29, 3) := by decide +kernel
theorem dX5_land_203 : decode cX5_land 203 = .ok (.aload_n 0, 1) := by decide +kernel
theorem dX5_land_204 : decode cX5_land 204 = .ok (.getfield 84, 3) := by decide +kernel
theorem dX5_land_207 : decode cX5_land 207 = .ok (.bipush 102, 2) := by decide +kernel
theorem dX5_land_209 : decode cX5_land 209 = .ok (.castore, 1) := by decide +kernel
theorem dX5_land_210 : decode cX5_land 210 = .ok (.aload_n 0, 1) := by decide +kernel
theorem dX5_land_211 : decode cX5_land 211 = .ok (.getfield 33, 3) := by decide +kernel
theorem dX5_land_214 : decode cX5_land 214 = .ok (.aload_n 0, 1) := by decide +kernel
theorem dX5_land_215 : decode cX5_land 215 = .ok (.getfield 84, 3) := by decide +kernel
theorem dX5_land_218 : decode cX5_land 218 = .ok (.ldc 106, 2) := by decide +kernel
theorem dX5_land_220 : decode cX5_land 220 = .ok (.fastore, 1) := by decide +kernel
theorem dX5_land_221 : decode cX5_land 221 = .ok (.aload_n 0, 1) := by decide +kernel
theorem dX5_land_222 : decode cX5_land 222 = .ok (.getfield 40, 3) := by decide +kernel
theorem dX5_land_225 : decode cX5_land 225 = .ok (.aload_n 0, 1) := by decide +kernel
theorem dX5_land_226 : decode cX5_land 226 = .ok (.getfield 84, 3) := by decide +kernel
theorem dX5_land_229 : decode cX5_land 229 = .ok (.iconst (-1), 1) := by decide +kernel
theorem dX5_land_230 : decode cX5_land 230 = .ok (.iastore, 1) := by decide +kernel
theorem dX5_land_231 : decode cX5_land 231 = .ok (.aload_n 0, 1) := by decide +kernel
theorem dX5_land_232 : decode cX5_land 232 = .ok (.dup, 1) := by decide +kernel
theorem dX5_land_233 : decode cX5_land 233 = .ok (.getfield 84, 3) := by decide +kernel
theorem dX5_land_236 : decode cX5_land 236 = .ok (.iconst 1, 1) := by decide +kernel
theorem dX5_land_237 : decode cX5_land 237 = .ok (.iadd, 1) := by decide +kernel
theorem dX5_land_238 : decode cX5_land 238 = .ok (.putfield 84, 3) := by decide +kernel
theorem dX5_land_241 : decode cX5_land 241 = .ok (.aload_n 0, 1) := by decide +kernel
theorem dX5_land_242 : decode cX5_land 242 = .ok (.getfield 84, 3) := by decide +kernel
theorem dX5_land_245 : decode cX5_land 245 = .ok (.iconst 1, 1) := by decide +kernel
theorem dX5_land_246 : decode cX5_land 246 = .ok (.isub, 1) := by decide +kernel
theorem dX5_land_247 : decode cX5_land 247 = .ok (.ireturn, 1) := by decide +kernel
theorem dX5_moveQuota_0 : decode cX5_moveQuota 0 = .ok (.aload_n 0, 1) := by decide +kernel
theorem dX5_moveQuota_1 : decode cX5_moveQuota 1 = .ok (.iload_n 1, 1) := by decide +kernel
theorem dX5_moveQuota_2 : decode cX5_moveQuota 2 = .ok (.invokevirtual 100, 3) := by decide +kernel
theorem dX5_moveQuota_5 : decode cX5_moveQuota 5 = .ok (.ifCond .eq 11, 3) := by decide +kernel
theorem dX5_moveQuota_8 : decode cX5_moveQuota 8 = .ok (.aload_n 0, 1) := by decide +kernel
theorem dX5_moveQuota_9 : decode cX5_moveQuota 9 = .ok (.iload_n 2, 1) := by decide +kernel
theorem dX5_moveQuota_10 : decode cX5_moveQuota 10 = .ok (.invokevirtual 100, 3) := by decide +kernel
theorem dX5_moveQuota_13 : decode cX5_moveQuota 13 = .ok (.ifCond .ne 7, 3) := by decide +kernel
theorem dX5_moveQuota_16 : decode cX5_moveQuota 16 = .ok (.iconst 1, 1) := by decide +kernel
theorem dX5_moveQuota_17 : decode cX5_moveQuota 17 = .ok (.goto 51, 3) := by decide +kernel
theorem dX5_moveQuota_20 : decode cX5_moveQuota 20 = .ok (.iload_n 1, 1) := by decide +kernel
theorem dX5_moveQuota_21 : decode cX5_moveQuota 21 = .ok (.iload_n 2, 1) := by decide +kernel
theorem dX5_moveQuota_22 : decode cX5_moveQuota 22 = .ok (.if_icmp .eq 22, 3) := by decide +kernel
theorem dX5_moveQuota_25 : decode cX5_moveQuota 25 = .ok (.iload_n 3, 1) := by decide +kernel
theorem dX5_moveQuota_26 : decode cX5_moveQuota 26 = .ok (.invokestatic 97, 3) := by decide +kernel
theorem dX5_moveQuota_29 : decode cX5_moveQuota 29 = .ok (.ifCond .eq 15, 3) := by decide +kernel
theorem dX5_moveQuota_32 : decode cX5_moveQuota 32 = .ok (.iload 4, 2) := by decide +kernel
theorem dX5_moveQuota_34 : decode cX5_moveQuota 34 = .ok (.iconst 1, 1) := by decide +kernel
theorem dX5_moveQuota_35 : decode cX5_moveQuota 35 = .ok (.sipush 9999, 3) := by decide +kernel
theorem dX5_moveQuota_38 : decode cX5_moveQuota 38 = .ok (.invokestatic 80, 3) := by decide +kernel
theorem dX5_moveQuota_41 : decode cX5_moveQuota 41 = .ok (.ifCond .ne 7, 3) := by decide +kernel
theorem dX5_moveQuota_44 : decode cX5_moveQuota 44 = .ok (.iconst 2, 1) := by decide +kernel
theorem dX5_moveQuota_45 : decode cX5_moveQuota 45 = .ok (.goto 23, 3) := by decide +kernel
theorem dX5_moveQuota_48 : decode cX5_moveQuota 48 = .ok (.aload_n 0, 1) := by decide +kernel
theorem dX5_moveQuota_49 : decode cX5_moveQuota 49 = .ok (.getfield 9, 3) := by decide +kernel
theorem dX5_moveQuota_52 : decode cX5_moveQuota 52 = .ok (.iconst 4, 1) := by decide +kernel
theorem dX5_moveQuota_53 : decode cX5_moveQuota 53 = .ok (.iload_n 1, 1) := by decide +kernel
theorem dX5_moveQuota_54 : decode cX5_moveQuota 54 = .ok (.imul, 1) := by decide +kernel
theorem dX5_moveQuota_55 : decode cX5_moveQuota 55 = .ok (.iload_n 3, 1) := by decide +kernel
theorem dX5_moveQuota_56 : decode cX5_moveQuota 56 = .ok (.iadd, 1) := by decide +kernel
theorem dX5_moveQuota_57 : decode cX5_moveQuota 57 = .ok (.iaload, 1) := by decide +kernel
theorem dX5_moveQuota_58 : decode cX5_moveQuota 58 = .ok (.iload 4, 2) := by decide +kernel
theorem dX5_moveQuota_60 : decode cX5_moveQuota 60 = .ok (.if_icmp .ge 7, 3) := by decide +kernel
theorem dX5_moveQuota_63 : decode cX5_moveQuota 63 = .ok (.iconst 3, 1) := by decide +kernel
theorem dX5_moveQuota_64 : decode cX5_moveQuota 64 = .ok (.goto 4, 3) := by decide +kernel
theorem dX5_moveQuota_67 : decode cX5_moveQuota 67 = .ok (.iconst 0, 1) := by decide +kernel
theorem dX5_moveQuota_68 : decode cX5_moveQuota 68 = .ok (.istore 5, 2) := by decide +kernel
theorem dX5_moveQuota_70 : decode cX5_moveQuota 70 = .ok (.aload_n 0, 1) := by decide +kernel
theorem dX5_moveQuota_71 : decode cX5_moveQuota 71 = .ok (.iload 5, 2) := by decide +kernel
theorem dX5_moveQuota_73 : decode cX5_moveQuota 73 = .ok (.invokevirtual 93, 3) := by decide +kernel
theorem dX5_moveQuota_76 : decode cX5_moveQuota 76 = .ok (.ifCond .ne 5, 3) := by decide +kernel
theorem dX5_moveQuota_79 : decode cX5_moveQuota 79 = .ok (.iconst 0, 1) := by decide +kernel
theorem dX5_moveQuota_80 : decode cX5_moveQuota 80 = .ok (.ireturn, 1) := by decide +kernel
theorem dX5_moveQuota_81 : decode cX5_moveQuota 81 = .ok (.aload_n 0, 1) := by decide +kernel
theorem dX5_moveQuota_82 : decode cX5_moveQuota 82 = .ok (.getfield 9, 3) := by decide +kernel
theorem dX5_moveQuota_85 : decode cX5_moveQuota 85 = .ok (.iconst 4, 1) := by decide +kernel
theorem dX5_moveQuota_86 : decode cX5_moveQuota 86 = .ok (.iload_n 1, 1) := by decide +kernel
theorem dX5_moveQuota_87 : decode cX5_moveQuota 87 = .ok (.imul, 1) := by decide +kernel
theorem dX5_moveQuota_88 : decode cX5_moveQuota 88 = .ok (.iload_n 3, 1) := by decide +kernel
theorem dX5_moveQuota_89 : decode cX5_moveQuota 89 = .ok (.iadd, 1) := by decide +kernel
theorem dX5_moveQuota_90 : decode cX5_moveQuota 90 = .ok (.dup2, 1) := by decide +kernel
theorem dX5_moveQuota_91 : decode cX5_moveQuota 91 = .ok (.iaload, 1) := by decide +kernel
theorem dX5_moveQuota_92 : decode cX5_moveQuota 92 = .ok (.iload 4, 2) := by decide +kernel
theorem dX5_moveQuota_94 : decode cX5_moveQuota 94 = .ok (.isub, 1) := by decide +kernel
theorem dX5_moveQuota_95 : decode cX5_moveQuota 95 = .ok (.iastore, 1) := by decide +kernel
theorem dX5_moveQuota_96 : decode cX5_moveQuota 96 = .ok (.aload_n 0, 1) := by decide +kernel
theorem dX5_moveQuota_97 : decode cX5_moveQuota 97 = .ok (.getfield 9, 3) := by decide +kernel
theorem dX5_moveQuota_100 : decode cX5_moveQuota 100 = .ok (.iconst 4, 1) := by decide +kernel
theorem dX5_moveQuota_101 : decode cX5_moveQuota 101 = .ok (.iload_n 2, 1) := by decide +kernel
theorem dX5_moveQuota_102 : decode cX5_moveQuota 102 = .ok (.imul, 1) := by decide +kernel
theorem dX5_moveQuota_103 : decode cX5_moveQuota 103 = .ok (.iload_n 3, 1) := by decide +kernel
theorem dX5_moveQuota_104 : decode cX5_moveQuota 104 = .ok (.iadd, 1) := by decide +kernel
theorem dX5_moveQuota_105 : decode cX5_moveQuota 105 = .ok (.dup2, 1) := by decide +kernel
theorem dX5_moveQuota_106 : decode cX5_moveQuota 106 = .ok (.iaload, 1) := by decide +kernel
theorem dX5_moveQuota_107 : decode cX5_moveQuota 107 = .ok (.iload 4, 2) := by decide +kernel
theorem dX5_moveQuota_109 : decode cX5_moveQuota 109 = .ok (.iadd, 1) := by decide +kernel
theorem dX5_moveQuota_110 : decode cX5_moveQuota 110 = .ok (.iastore, 1) := by decide +kernel
theorem dX5_moveQuota_111 : decode cX5_moveQuota 111 = .ok (.aload_n 0, 1) := by decide +kernel
theorem dX5_moveQuota_112 : decode cX5_moveQuota 112 = .ok (.getfield 9, 3) := by decide +kernel
theorem dX5_moveQuota_115 : decode cX5_moveQuota 115 = .ok (.iconst 4, 1) := by decide +kernel
theorem dX5_moveQuota_116 : decode cX5_moveQuota 116 = .ok (.iload_n 1, 1) := by decide +kernel
theorem dX5_moveQuota_117 : decode cX5_moveQuota 117 = .ok (.imul, 1) := by decide +kernel
theorem dX5_moveQuota_118 : decode cX5_moveQuota 118 = .ok (.iload_n 3, 1) := by decide +kernel
theorem dX5_moveQuota_119 : decode cX5_moveQuota 119 = .ok (.iadd, 1) := by decide +kernel
theorem dX5_moveQuota_120 : decode cX5_moveQuota 120 = .ok (.iaload, 1) := by decide +kernel
theorem dX5_moveQuota_121 : decode cX5_moveQuota 121 = .ok (.ireturn, 1) := by decide +kernel
theorem dX5_quota_0 : decode cX5_quota 0 = .ok (.aload_n 0, 1) := by decide +kernel
theorem dX5_quota_1 : decode cX5_quota 1 = .ok (.aload_n 0, 1) := by decide +kernel
theorem dX5_quota_2 : decode cX5_quota 2 = .ok (.iload_n 1, 1) := by decide +kernel
theorem dX5_quota_3 : decode cX5_quota 3 = .ok (.invokevirtual 100, 3) := by decide +kernel
theorem dX5_quota_6 : decode cX5_quota 6 = .ok (.ifCond .ne 7, 3) := by decide +kernel
theorem dX5_quota_9 : decode cX5_quota 9 = .ok (.iconst 1, 1) := by decide +kernel
theorem dX5_quota_10 : decode cX5_quota 10 = .ok (.goto 15, 3) := by decide +kernel
theorem dX5_quota_13 : decode cX5_quota 13 = .ok (.iload_n 2, 1) := by decide +kernel
theorem dX5_quota_14 : decode cX5_quota 14 = .ok (.invokestatic 97, 3) := by decide +kernel
theorem dX5_quota_17 : decode cX5_quota 17 = .ok (.ifCond .ne 7, 3) := by decide +kernel
theorem dX5_quota_20 : decode cX5_quota 20 = .ok (.iconst 2, 1) := by decide +kernel
theorem dX5_quota_21 : decode cX5_quota 21 = .ok (.goto 4, 3) := by decide +kernel
theorem dX5_quota_24 : decode cX5_quota 24 = .ok (.iconst 0, 1) := by decide +kernel
theorem dX5_quota_25 : decode cX5_quota 25 = .ok (.invokevirtual 93, 3) := by decide +kernel
theorem dX5_quota_28 : decode cX5_quota 28 = .ok (.ifCond .eq 16, 3) := by decide +kernel
theorem dX5_quota_31 : decode cX5_quota 31 = .ok (.aload_n 0, 1) := by decide +kernel
theorem dX5_quota_32 : decode cX5_quota 32 = .ok (.getfield 9, 3) := by decide +kernel
theorem dX5_quota_35 : decode cX5_quota 35 = .ok (.iconst 4, 1) := by decide +kernel
theorem dX5_quota_36 : decode cX5_quota 36 = .ok (.iload_n 1, 1) := by decide +kernel
theorem dX5_quota_37 : decode cX5_quota 37 = .ok (.imul, 1) := by decide +kernel
theorem dX5_quota_38 : decode cX5_quota 38 = .ok (.iload_n 2, 1) := by decide +kernel
theorem dX5_quota_39 : decode cX5_quota 39 = .ok (.iadd, 1) := by decide +kernel
theorem dX5_quota_40 : decode cX5_quota 40 = .ok (.iaload, 1) := by decide +kernel
theorem dX5_quota_41 : decode cX5_quota 41 = .ok (.goto 4, 3) := by decide +kernel
theorem dX5_quota_44 : decode cX5_quota 44 = .ok (.iconst 0, 1) := by decide +kernel
theorem dX5_quota_45 : decode cX5_quota 45 = .ok (.ireturn, 1) := by decide +kernel
theorem dX5_quotaAt_0 : decode cX5_quotaAt 0 = .ok (.aload_n 0, 1) := by decide +kernel
theorem dX5_quotaAt_1 : decode cX5_quotaAt 1 = .ok (.iload_n 1, 1) := by decide +kernel
theorem dX5_quotaAt_2 : decode cX5_quotaAt 2 = .ok (.invokevirtual 100, 3) := by decide +kernel
theorem dX5_quotaAt_5 : decode cX5_quotaAt 5 = .ok (.ifCond .ne 7, 3) := by decide +kernel
theorem dX5_quotaAt_8 : decode cX5_quotaAt 8 = .ok (.iconst 1, 1) := by decide +kernel
theorem dX5_quotaAt_9 : decode cX5_quotaAt 9 = .ok (.goto 33, 3) := by decide +kernel
theorem dX5_quotaAt_12 : decode cX5_quotaAt 12 = .ok (.iload_n 2, 1) := by decide +kernel
theorem dX5_quotaAt_13 : decode cX5_quotaAt 13 = .ok (.invokestatic 97, 3) := by decide +kernel
theorem dX5_quotaAt_16 : decode cX5_quotaAt 16 = .ok (.ifCond .ne 7, 3) := by decide +kernel
theorem dX5_quotaAt_19 : decode cX5_quotaAt 19 = .ok (.iconst 2, 1) := by decide +kernel
theorem dX5_quotaAt_20 : decode cX5_quotaAt 20 = .ok (.goto 22, 3) := by decide +kernel
theorem dX5_quotaAt_23 : decode cX5_quotaAt 23 = .ok (.iload_n 3, 1) := by decide +kernel
theorem dX5_quotaAt_24 : decode cX5_quotaAt 24 = .ok (.iconst 0, 1) := by decide +kernel
theorem dX5_quotaAt_25 : decode cX5_quotaAt 25 = .ok (.aload_n 0, 1) := by decide +kernel
theorem dX5_quotaAt_26 : decode cX5_quotaAt 26 = .ok (.getfield 107, 3) := by decide +kernel
theorem dX5_quotaAt_29 : decode cX5_quotaAt 29 = .ok (.iconst 1, 1) := by decide +kernel
theorem dX5_quotaAt_30 : decode cX5_quotaAt 30 = .ok (.isub, 1) := by decide +kernel
theorem dX5_quotaAt_31 : decode cX5_quotaAt 31 = .ok (.invokestatic 80, 3) := by decide +kernel
theorem dX5_quotaAt_34 : decode cX5_quotaAt 34 = .ok (.ifCond .ne 7, 3) := by decide +kernel
theorem dX5_quotaAt_37 : decode cX5_quotaAt 37 = .ok (.iconst 3, 1) := by decide +kernel
theorem dX5_quotaAt_38 : decode cX5_quotaAt 38 = .ok (.goto 4, 3) := by decide +kernel
theorem dX5_quotaAt_41 : decode cX5_quotaAt 41 = .ok (.iconst 0, 1) := by decide +kernel
theorem dX5_quotaAt_42 : decode cX5_quotaAt 42 = .ok (.istore 4, 2) := by decide +kernel
theorem dX5_quotaAt_44 : decode cX5_quotaAt 44 = .ok (.aload_n 0, 1) := by decide +kernel
theorem dX5_quotaAt_45 : decode cX5_quotaAt 45 = .ok (.iload 4, 2) := by decide +kernel
theorem dX5_quotaAt_47 : decode cX5_quotaAt 47 = .ok (.invokevirtual 93, 3) := by decide +kernel
theorem dX5_quotaAt_50 : decode cX5_quotaAt 50 = .ok (.ifCond .eq 21, 3) := by decide +kernel
theorem dX5_quotaAt_53 : decode cX5_quotaAt 53 = .ok (.aload_n 0, 1) := by decide +kernel
theorem dX5_quotaAt_54 : decode cX5_quotaAt 54 = .ok (.getfield 13, 3) := by decide +kernel
theorem dX5_quotaAt_57 : decode cX5_quotaAt 57 = .ok (.bipush 24, 2) := by decide +kernel
theorem dX5_quotaAt_59 : decode cX5_quotaAt 59 = .ok (.iload_n 3, 1) := by decide +kernel
theorem dX5_quotaAt_60 : decode cX5_quotaAt 60 = .ok (.imul, 1) := by decide +kernel
theorem dX5_quotaAt_61 : decode cX5_quotaAt 61 = .ok (.iconst 4, 1) := by decide +kernel
theorem dX5_quotaAt_62 : decode cX5_quotaAt 62 = .ok (.iload_n 1, 1) := by decide +kernel
theorem dX5_quotaAt_63 : decode cX5_quotaAt 63 = .ok (.imul, 1) := by decide +kernel
theorem dX5_quotaAt_64 : decode cX5_quotaAt 64 = .ok (.iadd, 1) := by decide +kernel
theorem dX5_quotaAt_65 : decode cX5_quotaAt 65 = .ok (.iload_n 2, 1) := by decide +kernel
theorem dX5_quotaAt_66 : decode cX5_quotaAt 66 = .ok (.iadd, 1) := by decide +kernel
theorem dX5_quotaAt_67 : decode cX5_quotaAt 67 = .ok (.iaload, 1) := by decide +kernel
theorem dX5_quotaAt_68 : decode cX5_quotaAt 68 = .ok (.goto 4, 3) := by decide +kernel
theorem dX5_quotaAt_71 : decode cX5_quotaAt 71 = .ok (.iconst 0, 1) := by decide +kernel
theorem dX5_quotaAt_72 : decode cX5_quotaAt 72 = .ok (.ireturn, 1) := by decide +kernel
theorem dX5_endDay_0 : decode cX5_endDay 0 = .ok (.aload_n 0, 1) := by decide +kernel
theorem dX5_endDay_1 : decode cX5_endDay 1 = .ok (.aload_n 0, 1) := by decide +kernel
theorem dX5_endDay_2 : decode cX5_endDay 2 = .ok (.getfield 107, 3) := by decide +kernel
theorem dX5_endDay_5 : decode cX5_endDay 5 = .ok (.bipush 19, 2) := by decide +kernel
theorem dX5_endDay_7 : decode cX5_endDay 7 = .ok (.if_icmp .ne 7, 3) := by decide +kernel
theorem dX5_endDay_10 : decode cX5_endDay 10 = .ok (.iconst 1, 1) := by decide +kernel
theorem dX5_endDay_11 : decode cX5_endDay 11 = .ok (.goto 4, 3) := by decide +kernel
theorem dX5_endDay_14 : decode cX5_endDay 14 = .ok (.iconst 0, 1) := by decide +kernel
theorem dX5_endDay_15 : decode cX5_endDay 15 = .ok (.invokevirtual 93, 3) := by decide +kernel
theorem dX5_endDay_18 : decode cX5_endDay 18 = .ok (.ifCond .ne 5, 3) := by decide +kernel
theorem dX5_endDay_21 : decode cX5_endDay 21 = .ok (.iconst 0, 1) := by decide +kernel
theorem dX5_endDay_22 : decode cX5_endDay 22 = .ok (.ireturn, 1) := by decide +kernel
theorem dX5_endDay_23 : decode cX5_endDay 23 = .ok (.iconst 0, 1) := by decide +kernel
theorem dX5_endDay_24 : decode cX5_endDay 24 = .ok (.istore_n 1, 1) := by decide +kernel
theorem dX5_endDay_25 : decode cX5_endDay 25 = .ok (.iload_n 1, 1) := by decide +kernel
theorem dX5_endDay_26 : decode cX5_endDay 26 = .ok (.bipush 24, 2) := by decide +kernel
theorem dX5_endDay_28 : decode cX5_endDay 28 = .ok (.if_icmp .ge 29, 3) := by decide +kernel
theorem dX5_endDay_31 : decode cX5_endDay 31 = .ok (.aload_n 0, 1) := by decide +kernel
theorem dX5_endDay_32 : decode cX5_endDay 32 = .ok (.getfield 13, 3) := by decide +kernel
theorem dX5_endDay_35 : decode cX5_endDay 35 = .ok (.bipush 24, 2) := by decide +kernel
theorem dX5_endDay_37 : decode cX5_endDay 37 = .ok (.aload_n 0, 1) := by decide +kernel
theorem dX5_endDay_38 : decode cX5_endDay 38 = .ok (.getfield 107, 3) := by decide +kernel
theorem dX5_endDay_41 : decode cX5_endDay 41 = .ok (.imul, 1) := by decide +kernel
theorem dX5_endDay_42 : decode cX5_endDay 42 = .ok (.iload_n 1, 1) := by decide +kernel
theorem dX5_endDay_43 : decode cX5_endDay 43 = .ok (.iadd, 1) := by decide +kernel
theorem dX5_endDay_44 : decode cX5_endDay 44 = .ok (.aload_n 0, 1) := by decide +kernel
theorem dX5_endDay_45 : decode cX5_endDay 45 = .ok (.getfield 9, 3) := by decide +kernel
theorem dX5_endDay_48 : decode cX5_endDay 48 = .ok (.iload_n 1, 1) := by decide +kernel
theorem dX5_endDay_49 : decode cX5_endDay 49 = .ok (.iaload, 1) := by decide +kernel
theorem dX5_endDay_50 : decode cX5_endDay 50 = .ok (.iastore, 1) := by decide +kernel
theorem dX5_endDay_51 : decode cX5_endDay 51 = .ok (.iinc 1 1, 3) := by decide +kernel
theorem dX5_endDay_54 : decode cX5_endDay 54 = .ok (.goto (-29), 3) := by decide +kernel
theorem dX5_endDay_57 : decode cX5_endDay 57 = .ok (.aload_n 0, 1) := by decide +kernel
theorem dX5_endDay_58 : decode cX5_endDay 58 = .ok (.dup, 1) := by decide +kernel
theorem dX5_endDay_59 : decode cX5_endDay 59 = .ok (.getfield 107, 3) := by decide +kernel
theorem dX5_endDay_62 : decode cX5_endDay 62 = .ok (.iconst 1, 1) := by decide +kernel
theorem dX5_endDay_63 : decode cX5_endDay 63 = .ok (.iadd, 1) := by decide +kernel
theorem dX5_endDay_64 : decode cX5_endDay 64 = .ok (.putfield 107, 3) := by decide +kernel
theorem dX5_endDay_67 : decode cX5_endDay 67 = .ok (.aload_n 0, 1) := by decide +kernel
theorem dX5_endDay_68 : decode cX5_endDay 68 = .ok (.getfield 107, 3) := by decide +kernel
theorem dX5_endDay_71 : decode cX5_endDay 71 = .ok (.ireturn, 1) := by decide +kernel
theorem dX5_beyond_0 : decode cX5_beyond 0 = .ok (.aload_n 0, 1) := by decide +kernel
theorem dX5_beyond_1 : decode cX5_beyond 1 = .ok (.iconst 0, 1) := by decide +kernel
theorem dX5_beyond_2 : decode cX5_beyond 2 = .ok (.putfield 74, 3) := by decide +kernel
theorem dX5_beyond_5 : decode cX5_beyond 5 = .ok (.aload_n 0, 1) := by decide +kernel
theorem dX5_beyond_6 : decode cX5_beyond 6 = .ok (.getfield 103, 3) := by decide +kernel
theorem dX5_beyond_9 : decode cX5_beyond 9 = .ok (.ireturn, 1) := by decide +kernel
theorem dX5_weight_0 : decode cX5_weight 0 = .ok (.aload_n 0, 1) := by decide +kernel
theorem dX5_weight_1 : decode cX5_weight 1 = .ok (.aload_n 0, 1) := by decide +kernel
theorem dX5_weight_2 : decode cX5_weight 2 = .ok (.iload_n 1, 1) := by decide +kernel
theorem dX5_weight_3 : decode cX5_weight 3 = .ok (.invokevirtual 110, 3) := by decide +kernel
theorem dX5_weight_6 : decode cX5_weight 6 = .ok (.ifCond .eq 7, 3) := by decide +kernel
theorem dX5_weight_9 : decode cX5_weight 9 = .ok (.iconst 0, 1) := by decide +kernel
theorem dX5_weight_10 : decode cX5_weight 10 = .ok (.goto 4, 3) := by decide +kernel
theorem dX5_weight_13 : decode cX5_weight 13 = .ok (.iconst 1, 1) := by decide +kernel
theorem dX5_weight_14 : decode cX5_weight 14 = .ok (.invokevirtual 93, 3) := by decide +kernel
theorem dX5_weight_17 : decode cX5_weight 17 = .ok (.ifCond .eq 12, 3) := by decide +kernel
theorem dX5_weight_20 : decode cX5_weight 20 = .ok (.aload_n 0, 1) := by decide +kernel
theorem dX5_weight_21 : decode cX5_weight 21 = .ok (.getfield 22, 3) := by decide +kernel
theorem dX5_weight_24 : decode cX5_weight 24 = .ok (.iload_n 1, 1) := by decide +kernel
theorem dX5_weight_25 : decode cX5_weight 25 = .ok (.iaload, 1) := by decide +kernel
theorem dX5_weight_26 : decode cX5_weight 26 = .ok (.goto 4, 3) := by decide +kernel
theorem dX5_weight_29 : decode cX5_weight 29 = .ok (.iconst 0, 1) := by decide +kernel
theorem dX5_weight_30 : decode cX5_weight 30 = .ok (.ireturn, 1) := by decide +kernel
theorem dX5_stateOf_0 : decode cX5_stateOf 0 = .ok (.aload_n 0, 1) := by decide +kernel
theorem dX5_stateOf_1 : decode cX5_stateOf 1 = .ok (.aload_n 0, 1) := by decide +kernel
theorem dX5_stateOf_2 : decode cX5_stateOf 2 = .ok (.iload_n 1, 1) := by decide +kernel
theorem dX5_stateOf_3 : decode cX5_stateOf 3 = .ok (.invokevirtual 110, 3) := by decide +kernel
theorem dX5_stateOf_6 : decode cX5_stateOf 6 = .ok (.ifCond .eq 7, 3) := by decide +kernel
theorem dX5_stateOf_9 : decode cX5_stateOf 9 = .ok (.iconst 0, 1) := by decide +kernel
theorem dX5_stateOf_10 : decode cX5_stateOf 10 = .ok (.goto 4, 3) := by decide +kernel
theorem dX5_stateOf_13 : decode cX5_stateOf 13 = .ok (.iconst 1, 1) := by decide +kernel
theorem dX5_stateOf_14 : decode cX5_stateOf 14 = .ok (.invokevirtual 93, 3) := by decide +kernel
theorem dX5_stateOf_17 : decode cX5_stateOf 17 = .ok (.ifCond .eq 12, 3) := by decide +kernel
theorem dX5_stateOf_20 : decode cX5_stateOf 20 = .ok (.aload_n 0, 1) := by decide +kernel
theorem dX5_stateOf_21 : decode cX5_stateOf 21 = .ok (.getfield 29, 3) := by decide +kernel
theorem dX5_stateOf_24 : decode cX5_stateOf 24 = .ok (.iload_n 1, 1) := by decide +kernel
theorem dX5_stateOf_25 : decode cX5_stateOf 25 = .ok (.caload, 1) := by decide +kernel
theorem dX5_stateOf_26 : decode cX5_stateOf 26 = .ok (.goto 4, 3) := by decide +kernel
theorem dX5_stateOf_29 : decode cX5_stateOf 29 = .ok (.iconst 0, 1) := by decide +kernel
theorem dX5_stateOf_30 : decode cX5_stateOf 30 = .ok (.ireturn, 1) := by decide +kernel
theorem dX5_fresh_0 : decode cX5_fresh 0 = .ok (.aload_n 0, 1) := by decide +kernel
theorem dX5_fresh_1 : decode cX5_fresh 1 = .ok (.aload_n 0, 1) := by decide +kernel
theorem dX5_fresh_2 : decode cX5_fresh 2 = .ok (.iload_n 1, 1) := by decide +kernel
theorem dX5_fresh_3 : decode cX5_fresh 3 = .ok (.invokevirtual 110, 3) := by decide +kernel
theorem dX5_fresh_6 : decode cX5_fresh 6 = .ok (.ifCond .eq 7, 3) := by decide +kernel
theorem dX5_fresh_9 : decode cX5_fresh 9 = .ok (.iconst 0, 1) := by decide +kernel
theorem dX5_fresh_10 : decode cX5_fresh 10 = .ok (.goto 4, 3) := by decide +kernel
theorem dX5_fresh_13 : decode cX5_fresh 13 = .ok (.iconst 1, 1) := by decide +kernel
theorem dX5_fresh_14 : decode cX5_fresh 14 = .ok (.invokevirtual 93, 3) := by decide +kernel
theorem dX5_fresh_17 : decode cX5_fresh 17 = .ok (.ifCond .eq 12, 3) := by decide +kernel
theorem dX5_fresh_20 : decode cX5_fresh 20 = .ok (.aload_n 0, 1) := by decide +kernel
theorem dX5_fresh_21 : decode cX5_fresh 21 = .ok (.getfield 33, 3) := by decide +kernel
theorem dX5_fresh_24 : decode cX5_fresh 24 = .ok (.iload_n 1, 1) := by decide +kernel
theorem dX5_fresh_25 : decode cX5_fresh 25 = .ok (.faload, 1) := by decide +kernel
theorem dX5_fresh_26 : decode cX5_fresh 26 = .ok (.goto 4, 3) := by decide +kernel
theorem dX5_fresh_29 : decode cX5_fresh 29 = .ok (.fconst 0, 1) := by decide +kernel
theorem dX5_fresh_30 : decode cX5_fresh 30 = .ok (.freturn, 1) := by decide +kernel
theorem dX5_freshBits_0 : decode cX5_freshBits 0 = .ok (.aload_n 0, 1) := by decide +kernel
theorem dX5_freshBits_1 : decode cX5_freshBits 1 = .ok (.aload_n 0, 1) := by decide +kernel
theorem dX5_freshBits_2 : decode cX5_freshBits 2 = .ok (.iload_n 1, 1) := by decide +kernel
theorem dX5_freshBits_3 : decode cX5_freshBits 3 = .ok (.invokevirtual 110, 3) := by decide +kernel
theorem dX5_freshBits_6 : decode cX5_freshBits 6 = .ok (.ifCond .eq 7, 3) := by decide +kernel
theorem dX5_freshBits_9 : decode cX5_freshBits 9 = .ok (.iconst 0, 1) := by decide +kernel
theorem dX5_freshBits_10 : decode cX5_freshBits 10 = .ok (.goto 4, 3) := by decide +kernel
theorem dX5_freshBits_13 : decode cX5_freshBits 13 = .ok (.iconst 1, 1) := by decide +kernel
theorem dX5_freshBits_14 : decode cX5_freshBits 14 = .ok (.invokevirtual 93, 3) := by decide +kernel
theorem dX5_freshBits_17 : decode cX5_freshBits 17 = .ok (.ifCond .eq 15, 3) := by decide +kernel
theorem dX5_freshBits_20 : decode cX5_freshBits 20 = .ok (.aload_n 0, 1) := by decide +kernel
theorem dX5_freshBits_21 : decode cX5_freshBits 21 = .ok (.getfield 33, 3) := by decide +kernel
theorem dX5_freshBits_24 : decode cX5_freshBits 24 = .ok (.iload_n 1, 1) := by decide +kernel
theorem dX5_freshBits_25 : decode cX5_freshBits 25 = .ok (.faload, 1) := by decide +kernel
theorem dX5_freshBits_26 : decode cX5_freshBits 26 = .ok (.invokestatic 113, 3) := by decide +kernel
theorem dX5_freshBits_29 : decode cX5_freshBits 29 = .ok (.goto 4, 3) := by decide +kernel
theorem dX5_freshBits_32 : decode cX5_freshBits 32 = .ok (.iconst 0, 1) := by decide +kernel
theorem dX5_freshBits_33 : decode cX5_freshBits 33 = .ok (.ireturn, 1) := by decide +kernel
theorem dX5_ice_0 : decode cX5_ice 0 = .ok (.aload_n 0, 1) := by decide +kernel
theorem dX5_ice_1 : decode cX5_ice 1 = .ok (.iload_n 1, 1) := by decide +kernel
theorem dX5_ice_2 : decode cX5_ice 2 = .ok (.invokevirtual 110, 3) := by decide +kernel
theorem dX5_ice_5 : decode cX5_ice 5 = .ok (.ifCond .ne 7, 3) := by decide +kernel
theorem dX5_ice_8 : decode cX5_ice 8 = .ok (.iconst 1, 1) := by decide +kernel
theorem dX5_ice_9 : decode cX5_ice 9 = .ok (.goto 45, 3) := by decide +kernel
theorem dX5_ice_12 : decode cX5_ice 12 = .ok (.iload_n 2, 1) := by decide +kernel
theorem dX5_ice_13 : decode cX5_ice 13 = .ok (.iconst 1, 1) := by decide +kernel
theorem dX5_ice_14 : decode cX5_ice 14 = .ok (.sipush 999, 3) := by decide +kernel
theorem dX5_ice_17 : decode cX5_ice 17 = .ok (.invokestatic 80, 3) := by decide +kernel
theorem dX5_ice_20 : decode cX5_ice 20 = .ok (.ifCond .ne 7, 3) := by decide +kernel
theorem dX5_ice_23 : decode cX5_ice 23 = .ok (.iconst 2, 1) := by decide +kernel
theorem dX5_ice_24 : decode cX5_ice 24 = .ok (.goto 30, 3) := by decide +kernel
theorem dX5_ice_27 : decode cX5_ice 27 = .ok (.aload_n 0, 1) := by decide +kernel
theorem dX5_ice_28 : decode cX5_ice 28 = .ok (.getfield 29, 3) := by decide +kernel
theorem dX5_ice_31 : decode cX5_ice 31 = .ok (.iload_n 1, 1) := by decide +kernel
theorem dX5_ice_32 : decode cX5_ice 32 = .ok (.caload, 1) := by decide +kernel
theorem dX5_ice_33 : decode cX5_ice 33 = .ok (.bipush 100, 2) := by decide +kernel
theorem dX5_ice_35 : decode cX5_ice 35 = .ok (.if_icmp .eq 14, 3) := by decide +kernel
theorem dX5_ice_38 : decode cX5_ice 38 = .ok (.aload_n 0, 1) := by decide +kernel
theorem dX5_ice_39 : decode cX5_ice 39 = .ok (.getfield 29, 3) := by decide +kernel
theorem dX5_ice_42 : decode cX5_ice 42 = .ok (.iload_n 1, 1) := by decide +kernel
theorem dX5_ice_43 : decode cX5_ice 43 = .ok (.caload, 1) := by decide +kernel
theorem dX5_ice_44 : decode cX5_ice 44 = .ok (.bipush 120, 2) := by decide +kernel
theorem dX5_ice_46 : decode cX5_ice 46 = .ok (.if_icmp .ne 7, 3) := by decide +kernel
theorem dX5_ice_49 : decode cX5_ice 49 = .ok (.iconst 3, 1) := by decide +kernel
theorem dX5_ice_50 : decode cX5_ice 50 = .ok (.goto 4, 3) := by decide +kernel
theorem dX5_ice_53 : decode cX5_ice 53 = .ok (.iconst 0, 1) := by decide +kernel
theorem dX5_ice_54 : decode cX5_ice 54 = .ok (.istore_n 3, 1) := by decide +kernel
theorem dX5_ice_55 : decode cX5_ice 55 = .ok (.aload_n 0, 1) := by decide +kernel
theorem dX5_ice_56 : decode cX5_ice 56 = .ok (.iload_n 3, 1) := by decide +kernel
theorem dX5_ice_57 : decode cX5_ice 57 = .ok (.invokevirtual 93, 3) := by decide +kernel
theorem dX5_ice_60 : decode cX5_ice 60 = .ok (.ifCond .ne 5, 3) := by decide +kernel
theorem dX5_ice_63 : decode cX5_ice 63 = .ok (.iconst 0, 1) := by decide +kernel
theorem dX5_ice_64 : decode cX5_ice 64 = .ok (.ireturn, 1) := by decide +kernel
theorem dX5_ice_65 : decode cX5_ice 65 = .ok (.aload_n 0, 1) := by decide +kernel
theorem dX5_ice_66 : decode cX5_ice 66 = .ok (.getfield 37, 3) := by decide +kernel
theorem dX5_ice_69 : decode cX5_ice 69 = .ok (.iload_n 1, 1) := by decide +kernel
theorem dX5_ice_70 : decode cX5_ice 70 = .ok (.dup2, 1) := by decide +kernel
theorem dX5_ice_71 : decode cX5_ice 71 = .ok (.iaload, 1) := by decide +kernel
theorem dX5_ice_72 : decode cX5_ice 72 = .ok (.iload_n 2, 1) := by decide +kernel
theorem dX5_ice_73 : decode cX5_ice 73 = .ok (.iadd, 1) := by decide +kernel
theorem dX5_ice_74 : decode cX5_ice 74 = .ok (.iastore, 1) := by decide +kernel
theorem dX5_ice_75 : decode cX5_ice 75 = .ok (.aload_n 0, 1) := by decide +kernel
theorem dX5_ice_76 : decode cX5_ice 76 = .ok (.getfield 37, 3) := by decide +kernel
theorem dX5_ice_79 : decode cX5_ice 79 = .ok (.iload_n 1, 1) := by decide +kernel
theorem dX5_ice_80 : decode cX5_ice 80 = .ok (.iaload, 1) := by decide +kernel
theorem dX5_ice_81 : decode cX5_ice 81 = .ok (.ireturn, 1) := by decide +kernel
theorem dX5_iceOn_0 : decode cX5_iceOn 0 = .ok (.aload_n 0, 1) := by decide +kernel
theorem dX5_iceOn_1 : decode cX5_iceOn 1 = .ok (.aload_n 0, 1) := by decide +kernel
theorem dX5_iceOn_2 : decode cX5_iceOn 2 = .ok (.iload_n 1, 1) := by decide +kernel
theorem dX5_iceOn_3 : decode cX5_iceOn 3 = .ok (.invokevirtual 110, 3) := by decide +kernel
theorem dX5_iceOn_6 : decode cX5_iceOn 6 = .ok (.ifCond .eq 7, 3) := by decide +kernel
theorem dX5_iceOn_9 : decode cX5_iceOn 9 = .ok (.iconst 0, 1) := by decide +kernel
theorem dX5_iceOn_10 : decode cX5_iceOn 10 = .ok (.goto 4, 3) := by decide +kernel
theorem dX5_iceOn_13 : decode cX5_iceOn 13 = .ok (.iconst 1, 1) := by decide +kernel
theorem dX5_iceOn_14 : decode cX5_iceOn 14 = .ok (.invokevirtual 93, 3) := by decide +kernel
theorem dX5_iceOn_17 : decode cX5_iceOn 17 = .ok (.ifCond .eq 12, 3) := by decide +kernel
theorem dX5_iceOn_20 : decode cX5_iceOn 20 = .ok (.aload_n 0, 1) := by decide +kernel
theorem dX5_iceOn_21 : decode cX5_iceOn 21 = .ok (.getfield 37, 3) := by decide +kernel
theorem dX5_iceOn_24 : decode cX5_iceOn 24 = .ok (.iload_n 1, 1) := by decide +kernel
theorem dX5_iceOn_25 : decode cX5_iceOn 25 = .ok (.iaload, 1) := by decide +kernel
theorem dX5_iceOn_26 : decode cX5_iceOn 26 = .ok (.goto 4, 3) := by decide +kernel
theorem dX5_iceOn_29 : decode cX5_iceOn 29 = .ok (.iconst 0, 1) := by decide +kernel
theorem dX5_iceOn_30 : decode cX5_iceOn 30 = .ok (.ireturn, 1) := by decide +kernel
theorem dX5_iceFor_0 : decode cX5_iceFor 0 = .ok (.aload_n 0, 1) := by decide +kernel
theorem dX5_iceFor_1 : decode cX5_iceFor 1 = .ok (.getfield 22, 3) := by decide +kernel
theorem dX5_iceFor_4 : decode cX5_iceFor 4 = .ok (.iload_n 1, 1) := by decide +kernel
theorem dX5_iceFor_5 : decode cX5_iceFor 5 = .ok (.iaload, 1) := by decide +kernel
theorem dX5_iceFor_6 : decode cX5_iceFor 6 = .ok (.bipush 9, 2) := by decide +kernel
theorem dX5_iceFor_8 : decode cX5_iceFor 8 = .ok (.iadd, 1) := by decide +kernel
theorem dX5_iceFor_9 : decode cX5_iceFor 9 = .ok (.bipush 10, 2) := by decide +kernel
theorem dX5_iceFor_11 : decode cX5_iceFor 11 = .ok (.idiv, 1) := by decide +kernel
theorem dX5_iceFor_12 : decode cX5_iceFor 12 = .ok (.ireturn, 1) := by decide +kernel
theorem dX5_iceLasts_0 : decode cX5_iceLasts 0 = .ok (.aload_n 0, 1) := by decide +kernel
theorem dX5_iceLasts_1 : decode cX5_iceLasts 1 = .ok (.aload_n 0, 1) := by decide +kernel
theorem dX5_iceLasts_2 : decode cX5_iceLasts 2 = .ok (.iload_n 1, 1) := by decide +kernel
theorem dX5_iceLasts_3 : decode cX5_iceLasts 3 = .ok (.invokevirtual 110, 3) := by decide +kernel
theorem dX5_iceLasts_6 : decode cX5_iceLasts 6 = .ok (.ifCond .eq 7, 3) := by decide +kernel
theorem dX5_iceLasts_9 : decode cX5_iceLasts 9 = .ok (.iconst 0, 1) := by decide +kernel
theorem dX5_iceLasts_10 : decode cX5_iceLasts 10 = .ok (.goto 4, 3) := by decide +kernel
theorem dX5_iceLasts_13 : decode cX5_iceLasts 13 = .ok (.iconst 1, 1) := by decide +kernel
theorem dX5_iceLasts_14 : decode cX5_iceLasts 14 = .ok (.invokevirtual 93, 3) := by decide +kernel
theorem dX5_iceLasts_17 : decode cX5_iceLasts 17 = .ok (.ifCond .eq 18, 3) := by decide +kernel
theorem dX5_iceLasts_20 : decode cX5_iceLasts 20 = .ok (.aload_n 0, 1) := by decide +kernel
theorem dX5_iceLasts_21 : decode cX5_iceLasts 21 = .ok (.getfield 37, 3) := by decide +kernel
theorem dX5_iceLasts_24 : decode cX5_iceLasts 24 = .ok (.iload_n 1, 1) := by decide +kernel
theorem dX5_iceLasts_25 : decode cX5_iceLasts 25 = .ok (.iaload, 1) := by decide +kernel
theorem dX5_iceLasts_26 : decode cX5_iceLasts 26 = .ok (.aload_n 0, 1) := by decide +kernel
theorem dX5_iceLasts_27 : decode cX5_iceLasts 27 = .ok (.iload_n 1, 1) := by decide +kernel
theorem dX5_iceLasts_28 : decode cX5_iceLasts 28 = .ok (.invokevirtual 119, 3) := by decide +kernel
theorem dX5_iceLasts_31 : decode cX5_iceLasts 31 = .ok (.idiv, 1) := by decide +kernel
theorem dX5_iceLasts_32 : decode cX5_iceLasts 32 = .ok (.goto 4, 3) := by decide +kernel
theorem dX5_iceLasts_35 : decode cX5_iceLasts 35 = .ok (.iconst 0, 1) := by decide +kernel
theorem dX5_iceLasts_36 : decode cX5_iceLasts 36 = .ok (.ireturn, 1) := by decide +kernel
theorem dX5_ages_0 : decode cX5_ages 0 = .ok (.aload_n 0, 1) := by decide +kernel
theorem dX5_ages_1 : decode cX5_ages 1 = .ok (.getfield 29, 3) := by decide +kernel
theorem dX5_ages_4 : decode cX5_ages 4 = .ok (.iload_n 1, 1) := by decide +kernel
theorem dX5_ages_5 : decode cX5_ages 5 = .ok (.caload, 1) := by decide +kernel
theorem dX5_ages_6 : decode cX5_ages 6 = .ok (.bipush 102, 2) := by decide +kernel
theorem dX5_ages_8 : decode cX5_ages 8 = .ok (.if_icmp .eq 26, 3) := by decide +kernel
theorem dX5_ages_11 : decode cX5_ages 11 = .ok (.aload_n 0, 1) := by decide +kernel
theorem dX5_ages_12 : decode cX5_ages 12 = .ok (.getfield 29, 3) := by decide +kernel
theorem dX5_ages_15 : decode cX5_ages 15 = .ok (.iload_n 1, 1) := by decide +kernel
theorem dX5_ages_16 : decode cX5_ages 16 = .ok (.caload, 1) := by decide +kernel
theorem dX5_ages_17 : decode cX5_ages 17 = .ok (.bipush 115, 2) := by decide +kernel
theorem dX5_ages_19 : decode cX5_ages 19 = .ok (.if_icmp .eq 15, 3) := by decide +kernel
theorem dX5_ages_22 : decode cX5_ages 22 = .ok (.aload_n 0, 1) := by decide +kernel
theorem dX5_ages_23 : decode cX5_ages 23 = .ok (.getfield 29, 3) := by decide +kernel
theorem dX5_ages_26 : decode cX5_ages 26 = .ok (.iload_n 1, 1) := by decide +kernel
theorem dX5_ages_27 : decode cX5_ages 27 = .ok (.caload, 1) := by decide +kernel
theorem dX5_ages_28 : decode cX5_ages 28 = .ok (.bipush 108, 2) := by decide +kernel
theorem dX5_ages_30 : decode cX5_ages 30 = .ok (.if_icmp .eq 4, 3) := by decide +kernel
theorem dX5_ages_33 : decode cX5_ages 33 = .ok (.return_, 1) := by decide +kernel
theorem dX5_ages_34 : decode cX5_ages 34 = .ok (.aload_n 0, 1) := by decide +kernel
theorem dX5_ages_35 : decode cX5_ages 35 = .ok (.getfield 37, 3) := by decide +kernel
theorem dX5_ages_38 : decode cX5_ages 38 = .ok (.iload_n 1, 1) := by decide +kernel
theorem dX5_ages_39 : decode cX5_ages 39 = .ok (.iaload, 1) := by decide +kernel
theorem dX5_ages_40 : decode cX5_ages 40 = .ok (.aload_n 0, 1) := by decide +kernel
theorem dX5_ages_41 : decode cX5_ages 41 = .ok (.iload_n 1, 1) := by decide +kernel
theorem dX5_ages_42 : decode cX5_ages 42 = .ok (.invokevirtual 119, 3) := by decide +kernel
theorem dX5_ages_45 : decode cX5_ages 45 = .ok (.if_icmp .lt 35, 3) := by decide +kernel
theorem dX5_ages_48 : decode cX5_ages 48 = .ok (.aload_n 0, 1) := by decide +kernel
theorem dX5_ages_49 : decode cX5_ages 49 = .ok (.getfield 37, 3) := by decide +kernel
theorem dX5_ages_52 : decode cX5_ages 52 = .ok (.iload_n 1, 1) := by decide +kernel
theorem dX5_ages_53 : decode cX5_ages 53 = .ok (.dup2, 1) := by decide +kernel
theorem dX5_ages_54 : decode cX5_ages 54 = .ok (.iaload, 1) := by decide +kernel
theorem dX5_ages_55 : decode cX5_ages 55 = .ok (.aload_n 0, 1) := by decide +kernel
theorem dX5_ages_56 : decode cX5_ages 56 = .ok (.iload_n 1, 1) := by decide +kernel
theorem dX5_ages_57 : decode cX5_ages 57 = .ok (.invokevirtual 119, 3) := by decide +kernel
theorem dX5_ages_60 : decode cX5_ages 60 = .ok (.isub, 1) := by decide +kernel
theorem dX5_ages_61 : decode cX5_ages 61 = .ok (.iastore, 1) := by decide +kernel
theorem dX5_ages_62 : decode cX5_ages 62 = .ok (.aload_n 0, 1) := by decide +kernel
theorem dX5_ages_63 : decode cX5_ages 63 = .ok (.getfield 33, 3) := by decide +kernel
theorem dX5_ages_66 : decode cX5_ages 66 = .ok (.iload_n 1, 1) := by decide +kernel
theorem dX5_ages_67 : decode cX5_ages 67 = .ok (.aload_n 0, 1) := by decide +kernel
theorem dX5_ages_68 : decode cX5_ages 68 = .ok (.getfield 33, 3) := by decide +kernel
theorem dX5_ages_71 : decode cX5_ages 71 = .ok (.iload_n 1, 1) := by decide +kernel
theorem dX5_ages_72 : decode cX5_ages 72 = .ok (.faload, 1) := by decide +kernel
theorem dX5_ages_73 : decode cX5_ages 73 = .ok (.ldc 123, 2) := by decide +kernel
theorem dX5_ages_75 : decode cX5_ages 75 = .ok (.fmul, 1) := by decide +kernel
theorem dX5_ages_76 : decode cX5_ages 76 = .ok (.fastore, 1) := by decide +kernel
theorem dX5_ages_77 : decode cX5_ages 77 = .ok (.goto 18, 3) := by decide +kernel
theorem dX5_ages_80 : decode cX5_ages 80 = .ok (.aload_n 0, 1) := by decide +kernel
theorem dX5_ages_81 : decode cX5_ages 81 = .ok (.getfield 33, 3) := by decide +kernel
theorem dX5_ages_84 : decode cX5_ages 84 = .ok (.iload_n 1, 1) := by decide +kernel
theorem dX5_ages_85 : decode cX5_ages 85 = .ok (.aload_n 0, 1) := by decide +kernel
theorem dX5_ages_86 : decode cX5_ages 86 = .ok (.getfield 33, 3) := by decide +kernel
theorem dX5_ages_89 : decode cX5_ages 89 = .ok (.iload_n 1, 1) := by decide +kernel
theorem dX5_ages_90 : decode cX5_ages 90 = .ok (.faload, 1) := by decide +kernel
theorem dX5_ages_91 : decode cX5_ages 91 = .ok (.ldc 124, 2) := by decide +kernel
theorem dX5_ages_93 : decode cX5_ages 93 = .ok (.fmul, 1) := by decide +kernel
theorem dX5_ages_94 : decode cX5_ages 94 = .ok (.fastore, 1) := by decide +kernel
theorem dX5_ages_95 : decode cX5_ages 95 = .ok (.aload_n 0, 1) := by decide +kernel
theorem dX5_ages_96 : decode cX5_ages 96 = .ok (.getfield 29, 3) := by decide +kernel
theorem dX5_ages_99 : decode cX5_ages 99 = .ok (.iload_n 1, 1) := by decide +kernel
theorem dX5_ages_100 : decode cX5_ages 100 = .ok (.aload_n 0, 1) := by decide +kernel
theorem dX5_ages_101 : decode cX5_ages 101 = .ok (.getfield 29, 3) := by decide +kernel
theorem dX5_ages_104 : decode cX5_ages 104 = .ok (.iload_n 1, 1) := by decide +kernel
theorem dX5_ages_105 : decode cX5_ages 105 = .ok (.caload, 1) := by decide +kernel
theorem dX5_ages_106 : decode cX5_ages 106 = .ok (.bipush 102, 2) := by decide +kernel
theorem dX5_ages_108 : decode cX5_ages 108 = .ok (.if_icmp .ne 20, 3) := by decide +kernel
theorem dX5_ages_111 : decode cX5_ages 111 = .ok (.aload_n 0, 1) := by decide +kernel
theorem dX5_ages_112 : decode cX5_ages 112 = .ok (.getfield 33, 3) := by decide +kernel
theorem dX5_ages_115 : decode cX5_ages 115 = .ok (.iload_n 1, 1) := by decide +kernel
theorem dX5_ages_116 : decode cX5_ages 116 = .ok (.faload, 1) := by decide +kernel
theorem dX5_ages_117 : decode cX5_ages 117 = .ok (.ldc 125, 2) := by decide +kernel
theorem dX5_ages_119 : decode cX5_ages 119 = .ok (.fcmp .g, 1) := by decide +kernel
theorem dX5_ages_120 : decode cX5_ages 120 = .ok (.ifCond .ge 8, 3) := by decide +kernel
theorem dX5_ages_123 : decode cX5_ages 123 = .ok (.bipush 120, 2) := by decide +kernel
theorem dX5_ages_125 : decode cX5_ages 125 = .ok (.goto 9, 3) := by decide +kernel
theorem dX5_ages_128 : decode cX5_ages 128 = .ok (.aload_n 0, 1) := by decide +kernel
theorem dX5_ages_129 : decode cX5_ages 129 = .ok (.getfield 29, 3) := by decide +kernel
theorem dX5_ages_132 : decode cX5_ages 132 = .ok (.iload_n 1, 1) := by decide +kernel
theorem dX5_ages_133 : decode cX5_ages 133 = .ok (.caload, 1) := by decide +kernel
theorem dX5_ages_134 : decode cX5_ages 134 = .ok (.castore, 1) := by decide +kernel
theorem dX5_ages_135 : decode cX5_ages 135 = .ok (.return_, 1) := by decide +kernel
theorem dX5_delivers_0 : decode cX5_delivers 0 = .ok (.aload_n 0, 1) := by decide +kernel
theorem dX5_delivers_1 : decode cX5_delivers 1 = .ok (.getfield 29, 3) := by decide +kernel
theorem dX5_delivers_4 : decode cX5_delivers 4 = .ok (.iload_n 1, 1) := by decide +kernel
theorem dX5_delivers_5 : decode cX5_delivers 5 = .ok (.bipush 100, 2) := by decide +kernel
theorem dX5_delivers_7 : decode cX5_delivers 7 = .ok (.castore, 1) := by decide +kernel
theorem dX5_delivers_8 : decode cX5_delivers 8 = .ok (.aload_n 0, 1) := by decide +kernel
theorem dX5_delivers_9 : decode cX5_delivers 9 = .ok (.getfield 33, 3) := by decide +kernel
theorem dX5_delivers_12 : decode cX5_delivers 12 = .ok (.iload_n 1, 1) := by decide +kernel
theorem dX5_delivers_13 : decode cX5_delivers 13 = .ok (.faload, 1) := by decide +kernel
theorem dX5_delivers_14 : decode cX5_delivers 14 = .ok (.ldc 126, 2) := by decide +kernel
theorem dX5_delivers_16 : decode cX5_delivers 16 = .ok (.fcmp .g, 1) := by decide +kernel
theorem dX5_delivers_17 : decode cX5_delivers 17 = .ok (.ifCond .ge 63, 3) := by decide +kernel
theorem dX5_delivers_20 : decode cX5_delivers 20 = .ok (.ldc 126, 2) := by decide +kernel
theorem dX5_delivers_22 : decode cX5_delivers 22 = .ok (.aload_n 0, 1) := by decide +kernel
theorem dX5_delivers_23 : decode cX5_delivers 23 = .ok (.getfield 33, 3) := by decide +kernel
theorem dX5_delivers_26 : decode cX5_delivers 26 = .ok (.iload_n 1, 1) := by decide +kernel
theorem dX5_delivers_27 : decode cX5_delivers 27 = .ok (.faload, 1) := by decide +kernel
theorem dX5_delivers_28 : decode cX5_delivers 28 = .ok (.fsub, 1) := by decide +kernel
theorem dX5_delivers_29 : decode cX5_delivers 29 = .ok (.fstore_n 2, 1) := by decide +kernel
theorem dX5_delivers_30 : decode cX5_delivers 30 = .ok (.aload_n 0, 1) := by decide +kernel
theorem dX5_delivers_31 : decode cX5_delivers 31 = .ok (.getfield 43, 3) := by decide +kernel
theorem dX5_delivers_34 : decode cX5_delivers 34 = .ok (.iload_n 1, 1) := by decide +kernel
theorem dX5_delivers_35 : decode cX5_delivers 35 = .ok (.iaload, 1) := by decide +kernel
theorem dX5_delivers_36 : decode cX5_delivers 36 = .ok (.i2f, 1) := by decide +kernel
theorem dX5_delivers_37 : decode cX5_delivers 37 = .ok (.fload_n 2, 1) := by decide +kernel
theorem dX5_delivers_38 : decode cX5_delivers 38 = .ok (.fmul, 1) := by decide +kernel
theorem dX5_delivers_39 : decode cX5_delivers 39 = .ok (.ldc 106, 2) := by decide +kernel
theorem dX5_delivers_41 : decode cX5_delivers 41 = .ok (.fdiv, 1) := by decide +kernel
theorem dX5_delivers_42 : decode cX5_delivers 42 = .ok (.f2i, 1) := by decide +kernel
theorem dX5_delivers_43 : decode cX5_delivers 43 = .ok (.istore_n 3, 1) := by decide +kernel
theorem dX5_delivers_44 : decode cX5_delivers 44 = .ok (.aload_n 0, 1) := by decide +kernel
theorem dX5_delivers_45 : decode cX5_delivers 45 = .ok (.getfield 43, 3) := by decide +kernel
theorem dX5_delivers_48 : decode cX5_delivers 48 = .ok (.iload_n 1, 1) := by decide +kernel
theorem dX5_delivers_49 : decode cX5_delivers 49 = .ok (.dup2, 1) := by decide +kernel
theorem dX5_delivers_50 : decode cX5_delivers 50 = .ok (.iaload, 1) := by decide +kernel
theorem dX5_delivers_51 : decode cX5_delivers 51 = .ok (.iload_n 3, 1) := by decide +kernel
theorem dX5_delivers_52 : decode cX5_delivers 52 = .ok (.isub, 1) := by decide +kernel
theorem dX5_delivers_53 : decode cX5_delivers 53 = .ok (.iastore, 1) := by decide +kernel
theorem dX5_delivers_54 : decode cX5_delivers 54 = .ok (.aload_n 0, 1) := by decide +kernel
theorem dX5_delivers_55 : decode cX5_delivers 55 = .ok (.dup, 1) := by decide +kernel
theorem dX5_delivers_56 : decode cX5_delivers 56 = .ok (.getfield 127, 3) := by decide +kernel
theorem dX5_delivers_59 : decode cX5_delivers 59 = .ok (.iload_n 3, 1) := by decide +kernel
theorem dX5_delivers_60 : decode cX5_delivers 60 = .ok (.i2l, 1) := by decide +kernel
theorem dX5_delivers_61 : decode cX5_delivers 61 = .ok (.lsub, 1) := by decide +kernel
theorem dX5_delivers_62 : decode cX5_delivers 62 = .ok (.putfield 127, 3) := by decide +kernel
theorem dX5_delivers_65 : decode cX5_delivers 65 = .ok (.aload_n 0, 1) := by decide +kernel
theorem dX5_delivers_66 : decode cX5_delivers 66 = .ok (.getfield 46, 3) := by decide +kernel
theorem dX5_delivers_69 : decode cX5_delivers 69 = .ok (.aload_n 0, 1) := by decide +kernel
theorem dX5_delivers_70 : decode cX5_delivers 70 = .ok (.getfield 40, 3) := by decide +kernel
theorem dX5_delivers_73 : decode cX5_delivers 73 = .ok (.iload_n 1, 1) := by decide +kernel
theorem dX5_delivers_74 : decode cX5_delivers 74 = .ok (.iaload, 1) := by decide +kernel
theorem dX5_delivers_75 : decode cX5_delivers 75 = .ok (.dup2, 1) := by decide +kernel
theorem dX5_delivers_76 : decode cX5_delivers 76 = .ok (.iaload, 1) := by decide +kernel
theorem dX5_delivers_77 : decode cX5_delivers 77 = .ok (.iload_n 3, 1) := by decide +kernel
theorem dX5_delivers_78 : decode cX5_delivers 78 = .ok (.iadd, 1) := by decide +kernel
theorem dX5_delivers_79 : decode cX5_delivers 79 = .ok (.iastore, 1) := by decide +kernel
theorem dX5_delivers_80 : decode cX5_delivers 80 = .ok (.return_, 1) := by decide +kernel
theorem dX5_tick_0 : decode cX5_tick 0 = .ok (.aload_n 0, 1) := by decide +kernel
theorem dX5_tick_1 : decode cX5_tick 1 = .ok (.iconst 0, 1) := by decide +kernel
theorem dX5_tick_2 : decode cX5_tick 2 = .ok (.putfield 74, 3) := by decide +kernel
theorem dX5_tick_5 : decode cX5_tick 5 = .ok (.iconst 0, 1) := by decide +kernel
theorem dX5_tick_6 : decode cX5_tick 6 = .ok (.istore_n 1, 1) := by decide +kernel
theorem dX5_tick_7 : decode cX5_tick 7 = .ok (.iload_n 1, 1) := by decide +kernel
theorem dX5_tick_8 : decode cX5_tick 8 = .ok (.aload_n 0, 1) := by decide +kernel
theorem dX5_tick_9 : decode cX5_tick 9 = .ok (.getfield 84, 3) := by decide +kernel
theorem dX5_tick_12 : decode cX5_tick 12 = .ok (.if_icmp .ge 14, 3) := by decide +kernel
theorem dX5_tick_15 : decode cX5_tick 15 = .ok (.aload_n 0, 1) := by decide +kernel
theorem dX5_tick_16 : decode cX5_tick 16 = .ok (.iload_n 1, 1) := by decide +kernel
theorem dX5_tick_17 : decode cX5_tick 17 = .ok (.invokevirtual 131, 3) := by decide +kernel
theorem dX5_tick_20 : decode cX5_tick 20 = .ok (.iinc 1 1, 3) := by decide +kernel
theorem dX5_tick_23 : decode cX5_tick 23 = .ok (.goto (-16), 3) := by decide +kernel
theorem dX5_tick_26 : decode cX5_tick 26 = .ok (.aload_n 0, 1) := by decide +kernel
theorem dX5_tick_27 : decode cX5_tick 27 = .ok (.dup, 1) := by decide +kernel
theorem dX5_tick_28 : decode cX5_tick 28 = .ok (.getfield 135, 3) := by decide +kernel
theorem dX5_tick_31 : decode cX5_tick 31 = .ok (.iconst 1, 1) := by decide +kernel
theorem dX5_tick_32 : decode cX5_tick 32 = .ok (.iadd, 1) := by decide +kernel
theorem dX5_tick_33 : decode cX5_tick 33 = .ok (.putfield 135, 3) := by decide +kernel
theorem dX5_tick_36 : decode cX5_tick 36 = .ok (.iconst 0, 1) := by decide +kernel
theorem dX5_tick_37 : decode cX5_tick 37 = .ok (.istore_n 1, 1) := by decide +kernel
theorem dX5_tick_38 : decode cX5_tick 38 = .ok (.iconst 0, 1) := by decide +kernel
theorem dX5_tick_39 : decode cX5_tick 39 = .ok (.istore_n 2, 1) := by decide +kernel
theorem dX5_tick_40 : decode cX5_tick 40 = .ok (.iload_n 2, 1) := by decide +kernel
theorem dX5_tick_41 : decode cX5_tick 41 = .ok (.aload_n 0, 1) := by decide +kernel
theorem dX5_tick_42 : decode cX5_tick 42 = .ok (.getfield 90, 3) := by decide +kernel
theorem dX5_tick_45 : decode cX5_tick 45 = .ok (.if_icmp .ge 60, 3) := by decide +kernel
theorem dX5_tick_48 : decode cX5_tick 48 = .ok (.aload_n 0, 1) := by decide +kernel
theorem dX5_tick_49 : decode cX5_tick 49 = .ok (.getfield 59, 3) := by decide +kernel
theorem dX5_tick_52 : decode cX5_tick 52 = .ok (.iload_n 2, 1) := by decide +kernel
theorem dX5_tick_53 : decode cX5_tick 53 = .ok (.iaload, 1) := by decide +kernel
theorem dX5_tick_54 : decode cX5_tick 54 = .ok (.aload_n 0, 1) := by decide +kernel
theorem dX5_tick_55 : decode cX5_tick 55 = .ok (.getfield 135, 3) := by decide +kernel
theorem dX5_tick_58 : decode cX5_tick 58 = .ok (.if_icmp .eq 6, 3) := by decide +kernel
theorem dX5_tick_61 : decode cX5_tick 61 = .ok (.goto 38, 3) := by decide +kernel
theorem dX5_tick_64 : decode cX5_tick 64 = .ok (.iinc 1 1, 3) := by decide +kernel
theorem dX5_tick_67 : decode cX5_tick 67 = .ok (.iconst 0, 1) := by decide +kernel
theorem dX5_tick_68 : decode cX5_tick 68 = .ok (.istore_n 3, 1) := by decide +kernel
theorem dX5_tick_69 : decode cX5_tick 69 = .ok (.iload_n 3, 1) := by decide +kernel
theorem dX5_tick_70 : decode cX5_tick 70 = .ok (.aload_n 0, 1) := by decide +kernel
theorem dX5_tick_71 : decode cX5_tick 71 = .ok (.getfield 68, 3) := by decide +kernel
theorem dX5_tick_74 : decode cX5_tick 74 = .ok (.iload_n 2, 1) := by decide +kernel
theorem dX5_tick_75 : decode cX5_tick 75 = .ok (.iaload, 1) := by decide +kernel
theorem dX5_tick_76 : decode cX5_tick 76 = .ok (.if_icmp .ge 23, 3) := by decide +kernel
theorem dX5_tick_79 : decode cX5_tick 79 = .ok (.aload_n 0, 1) := by decide +kernel
theorem dX5_tick_80 : decode cX5_tick 80 = .ok (.aload_n 0, 1) := by decide +kernel
theorem dX5_tick_81 : decode cX5_tick 81 = .ok (.getfield 71, 3) := by decide +kernel
theorem dX5_tick_84 : decode cX5_tick 84 = .ok (.iconst 5, 1) := by decide +kernel
theorem dX5_tick_85 : decode cX5_tick 85 = .ok (.iload_n 2, 1) := by decide +kernel
theorem dX5_tick_86 : decode cX5_tick 86 = .ok (.imul, 1) := by decide +kernel
theorem dX5_tick_87 : decode cX5_tick 87 = .ok (.iload_n 3, 1) := by decide +kernel
theorem dX5_tick_88 : decode cX5_tick 88 = .ok (.iadd, 1) := by decide +kernel
theorem dX5_tick_89 : decode cX5_tick 89 = .ok (.iaload, 1) := by decide +kernel
theorem dX5_tick_90 : decode cX5_tick 90 = .ok (.invokevirtual 138, 3) := by decide +kernel
theorem dX5_tick_93 : decode cX5_tick 93 = .ok (.iinc 3 1, 3) := by decide +kernel
theorem dX5_tick_96 : decode cX5_tick 96 = .ok (.goto (-27), 3) := by decide +kernel
theorem dX5_tick_99 : decode cX5_tick 99 = .ok (.iinc 2 1, 3) := by decide +kernel
theorem dX5_tick_102 : decode cX5_tick 102 = .ok (.goto (-62), 3) := by decide +kernel
theorem dX5_tick_105 : decode cX5_tick 105 = .ok (.iload_n 1, 1) := by decide +kernel
theorem dX5_tick_106 : decode cX5_tick 106 = .ok (.ireturn, 1) := by decide +kernel
theorem dX5_time_0 : decode cX5_time 0 = .ok (.aload_n 0, 1) := by decide +kernel
theorem dX5_time_1 : decode cX5_time 1 = .ok (.iconst 0, 1) := by decide +kernel
theorem dX5_time_2 : decode cX5_time 2 = .ok (.putfield 74, 3) := by decide +kernel
theorem dX5_time_5 : decode cX5_time 5 = .ok (.aload_n 0, 1) := by decide +kernel
theorem dX5_time_6 : decode cX5_time 6 = .ok (.getfield 135, 3) := by decide +kernel
theorem dX5_time_9 : decode cX5_time 9 = .ok (.ireturn, 1) := by decide +kernel
theorem dX5_addBuyer_0 : decode cX5_addBuyer 0 = .ok (.aload_n 0, 1) := by decide +kernel
theorem dX5_addBuyer_1 : decode cX5_addBuyer 1 = .ok (.iload_n 1, 1) := by decide +kernel
theorem dX5_addBuyer_2 : decode cX5_addBuyer 2 = .ok (.iconst 0, 1) := by decide +kernel
theorem dX5_addBuyer_3 : decode cX5_addBuyer 3 = .ok (.ldc 141, 2) := by decide +kernel
theorem dX5_addBuyer_5 : decode cX5_addBuyer 5 = .ok (.invokestatic 80, 3) := by decide +kernel
theorem dX5_addBuyer_8 : decode cX5_addBuyer 8 = .ok (.ifCond .ne 7, 3) := by decide +kernel
theorem dX5_addBuyer_11 : decode cX5_addBuyer 11 = .ok (.iconst 1, 1) := by decide +kernel
theorem dX5_addBuyer_12 : decode cX5_addBuyer 12 = .ok (.goto 16, 3) := by decide +kernel
theorem dX5_addBuyer_15 : decode cX5_addBuyer 15 = .ok (.aload_n 0, 1) := by decide +kernel
theorem dX5_addBuyer_16 : decode cX5_addBuyer 16 = .ok (.getfield 87, 3) := by decide +kernel
theorem dX5_addBuyer_19 : decode cX5_addBuyer 19 = .ok (.iconst 5, 1) := by decide +kernel
theorem dX5_addBuyer_20 : decode cX5_addBuyer 20 = .ok (.if_icmp .ne 7, 3) := by decide +kernel
theorem dX5_addBuyer_23 : decode cX5_addBuyer 23 = .ok (.iconst 2, 1) := by decide +kernel
theorem dX5_addBuyer_24 : decode cX5_addBuyer 24 = .ok (.goto 4, 3) := by decide +kernel
theorem dX5_addBuyer_27 : decode cX5_addBuyer 27 = .ok (.iconst 0, 1) := by decide +kernel
theorem dX5_addBuyer_28 : decode cX5_addBuyer 28 = .ok (.invokevirtual 93, 3) := by decide +kernel
theorem dX5_addBuyer_31 : decode cX5_addBuyer 31 = .ok (.ifCond .ne 5, 3) := by decide +kernel
theorem dX5_addBuyer_34 : decode cX5_addBuyer 34 = .ok (.iconst 0, 1) := by decide +kernel
theorem dX5_addBuyer_35 : decode cX5_addBuyer 35 = .ok (.ireturn, 1) := by decide +kernel
theorem dX5_addBuyer_36 : decode cX5_addBuyer 36 = .ok (.aload_n 0, 1) := by decide +kernel
theorem dX5_addBuyer_37 : decode cX5_addBuyer 37 = .ok (.getfield 46, 3) := by decide +kernel
theorem dX5_addBuyer_40 : decode cX5_addBuyer 40 = .ok (.aload_n 0, 1) := by decide +kernel
theorem dX5_addBuyer_41 : decode cX5_addBuyer 41 = .ok (.getfield 87, 3) := by decide +kernel
theorem dX5_addBuyer_44 : decode cX5_addBuyer 44 = .ok (.iload_n 1, 1) := by decide +kernel
theorem dX5_addBuyer_45 : decode cX5_addBuyer 45 = .ok (.iastore, 1) := by decide +kernel
theorem dX5_addBuyer_46 : decode cX5_addBuyer 46 = .ok (.aload_n 0, 1) := by decide +kernel
theorem dX5_addBuyer_47 : decode cX5_addBuyer 47 = .ok (.dup, 1) := by decide +kernel
theorem dX5_addBuyer_48 : decode cX5_addBuyer 48 = .ok (.getfield 87, 3) := by decide +kernel
theorem dX5_addBuyer_51 : decode cX5_addBuyer 51 = .ok (.iconst 1, 1) := by decide +kernel
theorem dX5_addBuyer_52 : decode cX5_addBuyer 52 = .ok (.iadd, 1) := by decide +kernel
theorem dX5_addBuyer_53 : decode cX5_addBuyer 53 = .ok (.putfield 87, 3) := by decide +kernel
theorem dX5_addBuyer_56 : decode cX5_addBuyer 56 = .ok (.aload_n 0, 1) := by decide +kernel
theorem dX5_addBuyer_57 : decode cX5_addBuyer 57 = .ok (.getfield 87, 3) := by decide +kernel
theorem dX5_addBuyer_60 : decode cX5_addBuyer 60 = .ok (.iconst 1, 1) := by decide +kernel
theorem dX5_addBuyer_61 : decode cX5_addBuyer 61 = .ok (.isub, 1) := by decide +kernel
theorem dX5_addBuyer_62 : decode cX5_addBuyer 62 = .ok (.ireturn, 1) := by decide +kernel
theorem dX5_setLimit_0 : decode cX5_setLimit 0 = .ok (.aload_n 0, 1) := by decide +kernel
theorem dX5_setLimit_1 : decode cX5_setLimit 1 = .ok (.aload_n 0, 1) := by decide +kernel
theorem dX5_setLimit_2 : decode cX5_setLimit 2 = .ok (.iload_n 1, 1) := by decide +kernel
theorem dX5_setLimit_3 : decode cX5_setLimit 3 = .ok (.invokevirtual 142, 3) := by decide +kernel
theorem dX5_setLimit_6 : decode cX5_setLimit 6 = .ok (.ifCond .ne 7, 3) := by decide +kernel
theorem dX5_setLimit_9 : decode cX5_setLimit 9 = .ok (.iconst 1, 1) := by decide +kernel
theorem dX5_setLimit_10 : decode cX5_setLimit 10 = .ok (.goto 26, 3) := by decide +kernel
theorem dX5_setLimit_13 : decode cX5_setLimit 13 = .ok (.iload_n 2, 1) := by decide +kernel
theorem dX5_setLimit_14 : decode cX5_setLimit 14 = .ok (.invokestatic 97, 3) := by decide +kernel
theorem dX5_setLimit_17 : decode cX5_setLimit 17 = .ok (.ifCond .eq 14, 3) := by decide +kernel
theorem dX5_setLimit_20 : decode cX5_setLimit 20 = .ok (.iload_n 3, 1) := by decide +kernel
theorem dX5_setLimit_21 : decode cX5_setLimit 21 = .ok (.iconst 0, 1) := by decide +kernel
theorem dX5_setLimit_22 : decode cX5_setLimit 22 = .ok (.sipush 9999, 3) := by decide +kernel
theorem dX5_setLimit_25 : decode cX5_setLimit 25 = .ok (.invokestatic 80, 3) := by decide +kernel
theorem dX5_setLimit_28 : decode cX5_setLimit 28 = .ok (.ifCond .ne 7, 3) := by decide +kernel
theorem dX5_setLimit_31 : decode cX5_setLimit 31 = .ok (.iconst 2, 1) := by decide +kernel
theorem dX5_setLimit_32 : decode cX5_setLimit 32 = .ok (.goto 4, 3) := by decide +kernel
theorem dX5_setLimit_35 : decode cX5_setLimit 35 = .ok (.iconst 0, 1) := by decide +kernel
theorem dX5_setLimit_36 : decode cX5_setLimit 36 = .ok (.invokevirtual 93, 3) := by decide +kernel
theorem dX5_setLimit_39 : decode cX5_setLimit 39 = .ok (.ifCond .ne 5, 3) := by decide +kernel
theorem dX5_setLimit_42 : decode cX5_setLimit 42 = .ok (.iconst 0, 1) := by decide +kernel
theorem dX5_setLimit_43 : decode cX5_setLimit 43 = .ok (.ireturn, 1) := by decide +kernel
theorem dX5_setLimit_44 : decode cX5_setLimit 44 = .ok (.aload_n 0, 1) := by decide +kernel
theorem dX5_setLimit_45 : decode cX5_setLimit 45 = .ok (.getfield 49, 3) := by decide +kernel
theorem dX5_setLimit_48 : decode cX5_setLimit 48 = .ok (.iconst 4, 1) := by decide +kernel
theorem dX5_setLimit_49 : decode cX5_setLimit 49 = .ok (.iload_n 1, 1) := by decide +kernel
theorem dX5_setLimit_50 : decode cX5_setLimit 50 = .ok (.imul, 1) := by decide +kernel
theorem dX5_setLimit_51 : decode cX5_setLimit 51 = .ok (.iload_n 2, 1) := by decide +kernel
theorem dX5_setLimit_52 : decode cX5_setLimit 52 = .ok (.iadd, 1) := by decide +kernel
theorem dX5_setLimit_53 : decode cX5_setLimit 53 = .ok (.iaload, 1) := by decide +kernel
theorem dX5_setLimit_54 : decode cX5_setLimit 54 = .ok (.istore 4, 2) := by decide +kernel
theorem dX5_setLimit_56 : decode cX5_setLimit 56 = .ok (.aload_n 0, 1) := by decide +kernel
theorem dX5_setLimit_57 : decode cX5_setLimit 57 = .ok (.getfield 49, 3) := by decide +kernel
theorem dX5_setLimit_60 : decode cX5_setLimit 60 = .ok (.iconst 4, 1) := by decide +kernel
theorem dX5_setLimit_61 : decode cX5_setLimit 61 = .ok (.iload_n 1, 1) := by decide +kernel
theorem dX5_setLimit_62 : decode cX5_setLimit 62 = .ok (.imul, 1) := by decide +kernel
theorem dX5_setLimit_63 : decode cX5_setLimit 63 = .ok (.iload_n 2, 1) := by decide +kernel
theorem dX5_setLimit_64 : decode cX5_setLimit 64 = .ok (.iadd, 1) := by decide +kernel
theorem dX5_setLimit_65 : decode cX5_setLimit 65 = .ok (.iload_n 3, 1) := by decide +kernel
theorem dX5_setLimit_66 : decode cX5_setLimit 66 = .ok (.iastore, 1) := by decide +kernel
theorem dX5_setLimit_67 : decode cX5_setLimit 67 = .ok (.iload 4, 2) := by decide +kernel
theorem dX5_setLimit_69 : decode cX5_setLimit 69 = .ok (.ireturn, 1) := by decide +kernel
theorem dX5_budget_0 : decode cX5_budget 0 = .ok (.aload_n 0, 1) := by decide +kernel
theorem dX5_budget_1 : decode cX5_budget 1 = .ok (.aload_n 0, 1) := by decide +kernel
theorem dX5_budget_2 : decode cX5_budget 2 = .ok (.iload_n 1, 1) := by decide +kernel
theorem dX5_budget_3 : decode cX5_budget 3 = .ok (.invokevirtual 142, 3) := by decide +kernel
theorem dX5_budget_6 : decode cX5_budget 6 = .ok (.ifCond .eq 7, 3) := by decide +kernel
theorem dX5_budget_9 : decode cX5_budget 9 = .ok (.iconst 0, 1) := by decide +kernel
theorem dX5_budget_10 : decode cX5_budget 10 = .ok (.goto 4, 3) := by decide +kernel
theorem dX5_budget_13 : decode cX5_budget 13 = .ok (.iconst 1, 1) := by decide +kernel
theorem dX5_budget_14 : decode cX5_budget 14 = .ok (.invokevirtual 93, 3) := by decide +kernel
theorem dX5_budget_17 : decode cX5_budget 17 = .ok (.ifCond .eq 12, 3) := by decide +kernel
theorem dX5_budget_20 : decode cX5_budget 20 = .ok (.aload_n 0, 1) := by decide +kernel
theorem dX5_budget_21 : decode cX5_budget 21 = .ok (.getfield 46, 3) := by decide +kernel
theorem dX5_budget_24 : decode cX5_budget 24 = .ok (.iload_n 1, 1) := by decide +kernel
theorem dX5_budget_25 : decode cX5_budget 25 = .ok (.iaload, 1) := by decide +kernel
theorem dX5_budget_26 : decode cX5_budget 26 = .ok (.goto 4, 3) := by decide +kernel
theorem dX5_budget_29 : decode cX5_budget 29 = .ok (.iconst 0, 1) := by decide +kernel
theorem dX5_budget_30 : decode cX5_budget 30 = .ok (.ireturn, 1) := by decide +kernel
theorem dX5_setClock_0 : decode cX5_setClock 0 = .ok (.aload_n 0, 1) := by decide +kernel
theorem dX5_setClock_1 : decode cX5_setClock 1 = .ok (.iload_n 1, 1) := by decide +kernel
theorem dX5_setClock_2 : decode cX5_setClock 2 = .ok (.iconst 1, 1) := by decide +kernel
theorem dX5_setClock_3 : decode cX5_setClock 3 = .ok (.sipush 9999, 3) := by decide +kernel
theorem dX5_setClock_6 : decode cX5_setClock 6 = .ok (.invokestatic 80, 3) := by decide +kernel
theorem dX5_setClock_9 : decode cX5_setClock 9 = .ok (.ifCond .eq 27, 3) := by decide +kernel
theorem dX5_setClock_12 : decode cX5_setClock 12 = .ok (.iload_n 2, 1) := by decide +kernel
theorem dX5_setClock_13 : decode cX5_setClock 13 = .ok (.iconst 1, 1) := by decide +kernel
theorem dX5_setClock_14 : decode cX5_setClock 14 = .ok (.sipush 500, 3) := by decide +kernel
theorem dX5_setClock_17 : decode cX5_setClock 17 = .ok (.invokestatic 80, 3) := by decide +kernel
theorem dX5_setClock_20 : decode cX5_setClock 20 = .ok (.ifCond .eq 16, 3) := by decide +kernel
theorem dX5_setClock_23 : decode cX5_setClock 23 = .ok (.iload_n 3, 1) := by decide +kernel
theorem dX5_setClock_24 : decode cX5_setClock 24 = .ok (.iconst 0, 1) := by decide +kernel
theorem dX5_setClock_25 : decode cX5_setClock 25 = .ok (.iload_n 1, 1) := by decide +kernel
theorem dX5_setClock_26 : decode cX5_setClock 26 = .ok (.invokestatic 80, 3) := by decide +kernel
theorem dX5_setClock_29 : decode cX5_setClock 29 = .ok (.ifCond .eq 7, 3) := by decide +kernel
theorem dX5_setClock_32 : decode cX5_setClock 32 = .ok (.iconst 0, 1) := by decide +kernel
theorem dX5_setClock_33 : decode cX5_setClock 33 = .ok (.goto 4, 3) := by decide +kernel
theorem dX5_setClock_36 : decode cX5_setClock 36 = .ok (.iconst 1, 1) := by decide +kernel
theorem dX5_setClock_37 : decode cX5_setClock 37 = .ok (.invokevirtual 93, 3) := by decide +kernel
theorem dX5_setClock_40 : decode cX5_setClock 40 = .ok (.ifCond .ne 5, 3) := by decide +kernel
theorem dX5_setClock_43 : decode cX5_setClock 43 = .ok (.iconst 0, 1) := by decide +kernel
theorem dX5_setClock_44 : decode cX5_setClock 44 = .ok (.ireturn, 1) := by decide +kernel
theorem dX5_setClock_45 : decode cX5_setClock 45 = .ok (.aload_n 0, 1) := by decide +kernel
theorem dX5_setClock_46 : decode cX5_setClock 46 = .ok (.getfield 52, 3) := by decide +kernel
theorem dX5_setClock_49 : decode cX5_setClock 49 = .ok (.istore 4, 2) := by decide +kernel
theorem dX5_setClock_51 : decode cX5_setClock 51 = .ok (.aload_n 0, 1) := by decide +kernel
theorem dX5_setClock_52 : decode cX5_setClock 52 = .ok (.iload_n 1, 1) := by decide +kernel
theorem dX5_setClock_53 : decode cX5_setClock 53 = .ok (.putfield 52, 3) := by decide +kernel
theorem dX5_setClock_56 : decode cX5_setClock 56 = .ok (.aload_n 0, 1) := by decide +kernel
theorem dX5_setClock_57 : decode cX5_setClock 57 = .ok (.iload_n 2, 1) := by decide +kernel
theorem dX5_setClock_58 : decode cX5_setClock 58 = .ok (.putfield 56, 3) := by decide +kernel
theorem dX5_setClock_61 : decode cX5_setClock 61 = .ok (.aload_n 0, 1) := by decide +kernel
theorem dX5_setClock_62 : decode cX5_setClock 62 = .ok (.iload_n 3, 1) := by decide +kernel
theorem dX5_setClock_63 : decode cX5_setClock 63 = .ok (.putfield 145, 3) := by decide +kernel
theorem dX5_setClock_66 : decode cX5_setClock 66 = .ok (.iload 4, 2) := by decide +kernel
theorem dX5_setClock_68 : decode cX5_setClock 68 = .ok (.ireturn, 1) := by decide +kernel
theorem dX5_offerOf_0 : decode cX5_offerOf 0 = .ok (.aload_n 0, 1) := by decide +kernel
theorem dX5_offerOf_1 : decode cX5_offerOf 1 = .ok (.getfield 49, 3) := by decide +kernel
theorem dX5_offerOf_4 : decode cX5_offerOf 4 = .ok (.iconst 4, 1) := by decide +kernel
theorem dX5_offerOf_5 : decode cX5_offerOf 5 = .ok (.iload_n 1, 1) := by decide +kernel
theorem dX5_offerOf_6 : decode cX5_offerOf 6 = .ok (.imul, 1) := by decide +kernel
theorem dX5_offerOf_7 : decode cX5_offerOf 7 = .ok (.aload_n 0, 1) := by decide +kernel
theorem dX5_offerOf_8 : decode cX5_offerOf 8 = .ok (.getfield 16, 3) := by decide +kernel
theorem dX5_offerOf_11 : decode cX5_offerOf 11 = .ok (.iload_n 2, 1) := by decide +kernel
theorem dX5_offerOf_12 : decode cX5_offerOf 12 = .ok (.iaload, 1) := by decide +kernel
theorem dX5_offerOf_13 : decode cX5_offerOf 13 = .ok (.iadd, 1) := by decide +kernel
theorem dX5_offerOf_14 : decode cX5_offerOf 14 = .ok (.iaload, 1) := by decide +kernel
theorem dX5_offerOf_15 : decode cX5_offerOf 15 = .ok (.bipush 100, 2) := by decide +kernel
theorem dX5_offerOf_17 : decode cX5_offerOf 17 = .ok (.bipush 10, 2) := by decide +kernel
theorem dX5_offerOf_19 : decode cX5_offerOf 19 = .ok (.aload_n 0, 1) := by decide +kernel
theorem dX5_offerOf_20 : decode cX5_offerOf 20 = .ok (.getfield 19, 3) := by decide +kernel
theorem dX5_offerOf_23 : decode cX5_offerOf 23 = .ok (.iload_n 2, 1) := by decide +kernel
theorem dX5_offerOf_24 : decode cX5_offerOf 24 = .ok (.iaload, 1) := by decide +kernel
theorem dX5_offerOf_25 : decode cX5_offerOf 25 = .ok (.imul, 1) := by decide +kernel
theorem dX5_offerOf_26 : decode cX5_offerOf 26 = .ok (.iadd, 1) := by decide +kernel
theorem dX5_offerOf_27 : decode cX5_offerOf 27 = .ok (.imul, 1) := by decide +kernel
theorem dX5_offerOf_28 : decode cX5_offerOf 28 = .ok (.istore_n 3, 1) := by decide +kernel
theorem dX5_offerOf_29 : decode cX5_offerOf 29 = .ok (.iload_n 3, 1) := by decide +kernel
theorem dX5_offerOf_30 : decode cX5_offerOf 30 = .ok (.i2d, 1) := by decide +kernel
theorem dX5_offerOf_31 : decode cX5_offerOf 31 = .ok (.ldc2_w 148, 3) := by decide +kernel
theorem dX5_offerOf_34 : decode cX5_offerOf 34 = .ok (.ddiv, 1) := by decide +kernel
theorem dX5_offerOf_35 : decode cX5_offerOf 35 = .ok (.dstore 4, 2) := by decide +kernel
theorem dX5_offerOf_37 : decode cX5_offerOf 37 = .ok (.dload 4, 2) := by decide +kernel
theorem dX5_offerOf_39 : decode cX5_offerOf 39 = .ok (.aload_n 0, 1) := by decide +kernel
theorem dX5_offerOf_40 : decode cX5_offerOf 40 = .ok (.getfield 33, 3) := by decide +kernel
theorem dX5_offerOf_43 : decode cX5_offerOf 43 = .ok (.iload_n 2, 1) := by decide +kernel
theorem dX5_offerOf_44 : decode cX5_offerOf 44 = .ok (.faload, 1) := by decide +kernel
theorem dX5_offerOf_45 : decode cX5_offerOf 45 = .ok (.f2d, 1) := by decide +kernel
theorem dX5_offerOf_46 : decode cX5_offerOf 46 = .ok (.dmul, 1) := by decide +kernel
theorem dX5_offerOf_47 : decode cX5_offerOf 47 = .ok (.dstore 4, 2) := by decide +kernel
theorem dX5_offerOf_49 : decode cX5_offerOf 49 = .ok (.dload 4, 2) := by decide +kernel
theorem dX5_offerOf_51 : decode cX5_offerOf 51 = .ok (.ldc2_w 148, 3) := by decide +kernel
theorem dX5_offerOf_54 : decode cX5_offerOf 54 = .ok (.ddiv, 1) := by decide +kernel
theorem dX5_offerOf_55 : decode cX5_offerOf 55 = .ok (.dstore 4, 2) := by decide +kernel
theorem dX5_offerOf_57 : decode cX5_offerOf 57 = .ok (.dload 4, 2) := by decide +kernel
theorem dX5_offerOf_59 : decode cX5_offerOf 59 = .ok (.d2i, 1) := by decide +kernel
theorem dX5_offerOf_60 : decode cX5_offerOf 60 = .ok (.ireturn, 1) := by decide +kernel
theorem dX5_offer_0 : decode cX5_offer 0 = .ok (.aload_n 0, 1) := by decide +kernel
theorem dX5_offer_1 : decode cX5_offer 1 = .ok (.aload_n 0, 1) := by decide +kernel
theorem dX5_offer_2 : decode cX5_offer 2 = .ok (.iload_n 1, 1) := by decide +kernel
theorem dX5_offer_3 : decode cX5_offer 3 = .ok (.invokevirtual 142, 3) := by decide +kernel
theorem dX5_offer_6 : decode cX5_offer 6 = .ok (.ifCond .ne 7, 3) := by decide +kernel
theorem dX5_offer_9 : decode cX5_offer 9 = .ok (.iconst 1, 1) := by decide +kernel
theorem dX5_offer_10 : decode cX5_offer 10 = .ok (.goto 16, 3) := by decide +kernel
theorem dX5_offer_13 : decode cX5_offer 13 = .ok (.aload_n 0, 1) := by decide +kernel
theorem dX5_offer_14 : decode cX5_offer 14 = .ok (.iload_n 2, 1) := by decide +kernel
theorem dX5_offer_15 : decode cX5_offer 15 = .ok (.invokevirtual 110, 3) := by decide +kernel
theorem dX5_offer_18 : decode cX5_offer 18 = .ok (.ifCond .ne 7, 3) := by decide +kernel
theorem dX5_offer_21 : decode cX5_offer 21 = .ok (.iconst 2, 1) := by decide +kernel
theorem dX5_offer_22 : decode cX5_offer 22 = .ok (.goto 4, 3) := by decide +kernel
theorem dX5_offer_25 : decode cX5_offer 25 = .ok (.iconst 0, 1) := by decide +kernel
theorem dX5_offer_26 : decode cX5_offer 26 = .ok (.invokevirtual 93, 3) := by decide +kernel
theorem dX5_offer_29 : decode cX5_offer 29 = .ok (.ifCond .eq 12, 3) := by decide +kernel
theorem dX5_offer_32 : decode cX5_offer 32 = .ok (.aload_n 0, 1) := by decide +kernel
theorem dX5_offer_33 : decode cX5_offer 33 = .ok (.iload_n 1, 1) := by decide +kernel
theorem dX5_offer_34 : decode cX5_offer 34 = .ok (.iload_n 2, 1) := by decide +kernel
theorem dX5_offer_35 : decode cX5_offer 35 = .ok (.invokevirtual 150, 3) := by decide +kernel
theorem dX5_offer_38 : decode cX5_offer 38 = .ok (.goto 4, 3) := by decide +kernel
theorem dX5_offer_41 : decode cX5_offer 41 = .ok (.iconst 0, 1) := by decide +kernel
theorem dX5_offer_42 : decode cX5_offer 42 = .ok (.ireturn, 1) := by decide +kernel
theorem dX5_takes_0 : decode cX5_takes 0 = .ok (.iconst (-1), 1) := by decide +kernel
theorem dX5_takes_1 : decode cX5_takes 1 = .ok (.istore_n 3, 1) := by decide +kernel
theorem dX5_takes_2 : decode cX5_takes 2 = .ok (.iconst 0, 1) := by decide +kernel
theorem dX5_takes_3 : decode cX5_takes 3 = .ok (.istore 4, 2) := by decide +kernel
theorem dX5_takes_5 : decode cX5_takes 5 = .ok (.iload 4, 2) := by decide +kernel
theorem dX5_takes_7 : decode cX5_takes 7 = .ok (.aload_n 0, 1) := by decide +kernel
theorem dX5_takes_8 : decode cX5_takes 8 = .ok (.getfield 87, 3) := by decide +kernel
theorem dX5_takes_11 : decode cX5_takes 11 = .ok (.if_icmp .ge 78, 3) := by decide +kernel
theorem dX5_takes_14 : decode cX5_takes 14 = .ok (.aload_n 0, 1) := by decide +kernel
theorem dX5_takes_15 : decode cX5_takes 15 = .ok (.iload 4, 2) := by decide +kernel
theorem dX5_takes_17 : decode cX5_takes 17 = .ok (.iload_n 1, 1) := by decide +kernel
theorem dX5_takes_18 : decode cX5_takes 18 = .ok (.invokevirtual 150, 3) := by decide +kernel
theorem dX5_takes_21 : decode cX5_takes 21 = .ok (.iload_n 2, 1) := by decide +kernel
theorem dX5_takes_22 : decode cX5_takes 22 = .ok (.if_icmp .lt 25, 3) := by decide +kernel
theorem dX5_takes_25 : decode cX5_takes 25 = .ok (.aload_n 0, 1) := by decide +kernel
theorem dX5_takes_26 : decode cX5_takes 26 = .ok (.getfield 46, 3) := by decide +kernel
theorem dX5_takes_29 : decode cX5_takes 29 = .ok (.iload 4, 2) := by decide +kernel
theorem dX5_takes_31 : decode cX5_takes 31 = .ok (.iaload, 1) := by decide +kernel
theorem dX5_takes_32 : decode cX5_takes 32 = .ok (.iload_n 2, 1) := by decide +kernel
theorem dX5_takes_33 : decode cX5_takes 33 = .ok (.aload_n 0, 1) := by decide +kernel
theorem dX5_takes_34 : decode cX5_takes 34 = .ok (.getfield 22, 3) := by decide +kernel
theorem dX5_takes_37 : decode cX5_takes 37 = .ok (.iload_n 1, 1) := by decide +kernel
theorem dX5_takes_38 : decode cX5_takes 38 = .ok (.iaload, 1) := by decide +kernel
theorem dX5_takes_39 : decode cX5_takes 39 = .ok (.imul, 1) := by decide +kernel
theorem dX5_takes_40 : decode cX5_takes 40 = .ok (.if_icmp .lt 7, 3) := by decide +kernel
theorem dX5_takes_43 : decode cX5_takes 43 = .ok (.iconst 1, 1) := by decide +kernel
theorem dX5_takes_44 : decode cX5_takes 44 = .ok (.goto 4, 3) := by decide +kernel
theorem dX5_takes_47 : decode cX5_takes 47 = .ok (.iconst 0, 1) := by decide +kernel
theorem dX5_takes_48 : decode cX5_takes 48 = .ok (.istore 5, 2) := by decide +kernel
theorem dX5_takes_50 : decode cX5_takes 50 = .ok (.iload 5, 2) := by decide +kernel
theorem dX5_takes_52 : decode cX5_takes 52 = .ok (.ifCond .eq 29, 3) := by decide +kernel
theorem dX5_takes_55 : decode cX5_takes 55 = .ok (.iload_n 3, 1) := by decide +kernel
theorem dX5_takes_56 : decode cX5_takes 56 = .ok (.iconst (-1), 1) := by decide +kernel
theorem dX5_takes_57 : decode cX5_takes 57 = .ok (.if_icmp .eq 19, 3) := by decide +kernel
theorem dX5_takes_60 : decode cX5_takes 60 = .ok (.aload_n 0, 1) := by decide +kernel
theorem dX5_takes_61 : decode cX5_takes 61 = .ok (.iload 4, 2) := by decide +kernel
theorem dX5_takes_63 : decode cX5_takes 63 = .ok (.iload_n 1, 1) := by decide +kernel
theorem dX5_takes_64 : decode cX5_takes 64 = .ok (.invokevirtual 150, 3) := by decide +kernel
theorem dX5_takes_67 : decode cX5_takes 67 = .ok (.aload_n 0, 1) := by decide +kernel
theorem dX5_takes_68 : decode cX5_takes 68 = .ok (.iload_n 3, 1) := by decide +kernel
theorem dX5_takes_69 : decode cX5_takes 69 = .ok (.iload_n 1, 1) := by decide +kernel
theorem dX5_takes_70 : decode cX5_takes 70 = .ok (.invokevirtual 150, 3) := by decide +kernel
theorem dX5_takes_73 : decode cX5_takes 73 = .ok (.if_icmp .le 8, 3) := by decide +kernel
theorem dX5_takes_76 : decode cX5_takes 76 = .ok (.iload 4, 2) := by decide +kernel
theorem dX5_takes_78 : decode cX5_takes 78 = .ok (.goto 4, 3) := by decide +kernel
theorem dX5_takes_81 : decode cX5_takes 81 = .ok (.iload_n 3, 1) := by decide +kernel
theorem dX5_takes_82 : decode cX5_takes 82 = .ok (.istore_n 3, 1) := by decide +kernel
theorem dX5_takes_83 : decode cX5_takes 83 = .ok (.iinc 4 1, 3) := by decide +kernel
theorem dX5_takes_86 : decode cX5_takes 86 = .ok (.goto (-81), 3) := by decide +kernel
theorem dX5_takes_89 : decode cX5_takes 89 = .ok (.iload_n 3, 1) := by decide +kernel
theorem dX5_takes_90 : decode cX5_takes 90 = .ok (.ireturn, 1) := by decide +kernel
theorem dX5_falls_0 : decode cX5_falls 0 = .ok (.aload_n 0, 1) := by decide +kernel
theorem dX5_falls_1 : decode cX5_falls 1 = .ok (.getfield 52, 3) := by decide +kernel
theorem dX5_falls_4 : decode cX5_falls 4 = .ok (.istore_n 2, 1) := by decide +kernel
theorem dX5_falls_5 : decode cX5_falls 5 = .ok (.iload_n 2, 1) := by decide +kernel
theorem dX5_falls_6 : decode cX5_falls 6 = .ok (.aload_n 0, 1) := by decide +kernel
theorem dX5_falls_7 : decode cX5_falls 7 = .ok (.getfield 145, 3) := by decide +kernel
theorem dX5_falls_10 : decode cX5_falls 10 = .ok (.if_icmp .lt 29, 3) := by decide +kernel
theorem dX5_falls_13 : decode cX5_falls 13 = .ok (.iload_n 2, 1) := by decide +kernel
theorem dX5_falls_14 : decode cX5_falls 14 = .ok (.ifCond .lt 25, 3) := by decide +kernel
theorem dX5_falls_17 : decode cX5_falls 17 = .ok (.aload_n 0, 1) := by decide +kernel
theorem dX5_falls_18 : decode cX5_falls 18 = .ok (.iload_n 1, 1) := by decide +kernel
theorem dX5_falls_19 : decode cX5_falls 19 = .ok (.iload_n 2, 1) := by decide +kernel
theorem dX5_falls_20 : decode cX5_falls 20 = .ok (.invokevirtual 154, 3) := by decide +kernel
theorem dX5_falls_23 : decode cX5_falls 23 = .ok (.iconst (-1), 1) := by decide +kernel
theorem dX5_falls_24 : decode cX5_falls 24 = .ok (.if_icmp .eq 5, 3) := by decide +kernel
theorem dX5_falls_27 : decode cX5_falls 27 = .ok (.iload_n 2, 1) := by decide +kernel
theorem dX5_falls_28 : decode cX5_falls 28 = .ok (.ireturn, 1) := by decide +kernel
theorem dX5_falls_29 : decode cX5_falls 29 = .ok (.iload_n 2, 1) := by decide +kernel
theorem dX5_falls_30 : decode cX5_falls 30 = .ok (.aload_n 0, 1) := by decide +kernel
theorem dX5_falls_31 : decode cX5_falls 31 = .ok (.getfield 56, 3) := by decide +kernel
theorem dX5_falls_34 : decode cX5_falls 34 = .ok (.isub, 1) := by decide +kernel
theorem dX5_falls_35 : decode cX5_falls 35 = .ok (.istore_n 2, 1) := by decide +kernel
theorem dX5_falls_36 : decode cX5_falls 36 = .ok (.goto (-31), 3) := by decide +kernel
theorem dX5_falls_39 : decode cX5_falls 39 = .ok (.iconst (-1), 1) := by decide +kernel
theorem dX5_falls_40 : decode cX5_falls 40 = .ok (.ireturn, 1) := by decide +kernel
theorem dX5_saleFault_0 : decode cX5_saleFault 0 = .ok (.aload_n 0, 1) := by decide +kernel
theorem dX5_saleFault_1 : decode cX5_saleFault 1 = .ok (.iload_n 1, 1) := by decide +kernel
theorem dX5_saleFault_2 : decode cX5_saleFault 2 = .ok (.invokevirtual 110, 3) := by decide +kernel
theorem dX5_saleFault_5 : decode cX5_saleFault 5 = .ok (.ifCond .ne 7, 3) := by decide +kernel
theorem dX5_saleFault_8 : decode cX5_saleFault 8 = .ok (.iconst 1, 1) := by decide +kernel
theorem dX5_saleFault_9 : decode cX5_saleFault 9 = .ok (.goto 19, 3) := by decide +kernel
theorem dX5_saleFault_12 : decode cX5_saleFault 12 = .ok (.aload_n 0, 1) := by decide +kernel
theorem dX5_saleFault_13 : decode cX5_saleFault 13 = .ok (.getfield 29, 3) := by decide +kernel
theorem dX5_saleFault_16 : decode cX5_saleFault 16 = .ok (.iload_n 1, 1) := by decide +kernel
theorem dX5_saleFault_17 : decode cX5_saleFault 17 = .ok (.caload, 1) := by decide +kernel
theorem dX5_saleFault_18 : decode cX5_saleFault 18 = .ok (.bipush 102, 2) := by decide +kernel
theorem dX5_saleFault_20 : decode cX5_saleFault 20 = .ok (.if_icmp .eq 7, 3) := by decide +kernel
theorem dX5_saleFault_23 : decode cX5_saleFault 23 = .ok (.iconst 2, 1) := by decide +kernel
theorem dX5_saleFault_24 : decode cX5_saleFault 24 = .ok (.goto 4, 3) := by decide +kernel
theorem dX5_saleFault_27 : decode cX5_saleFault 27 = .ok (.iconst 0, 1) := by decide +kernel
theorem dX5_saleFault_28 : decode cX5_saleFault 28 = .ok (.istore_n 2, 1) := by decide +kernel
theorem dX5_saleFault_29 : decode cX5_saleFault 29 = .ok (.iload_n 2, 1) := by decide +kernel
theorem dX5_saleFault_30 : decode cX5_saleFault 30 = .ok (.ifCond .ne 16, 3) := by decide +kernel
theorem dX5_saleFault_33 : decode cX5_saleFault 33 = .ok (.aload_n 0, 1) := by decide +kernel
theorem dX5_saleFault_34 : decode cX5_saleFault 34 = .ok (.iload_n 1, 1) := by decide +kernel
theorem dX5_saleFault_35 : decode cX5_saleFault 35 = .ok (.invokevirtual 157, 3) := by decide +kernel
theorem dX5_saleFault_38 : decode cX5_saleFault 38 = .ok (.iconst (-1), 1) := by decide +kernel
theorem dX5_saleFault_39 : decode cX5_saleFault 39 = .ok (.if_icmp .ne 7, 3) := by decide +kernel
theorem dX5_saleFault_42 : decode cX5_saleFault 42 = .ok (.iconst 3, 1) := by decide +kernel
theorem dX5_saleFault_43 : decode cX5_saleFault 43 = .ok (.goto 4, 3) := by decide +kernel
theorem dX5_saleFault_46 : decode cX5_saleFault 46 = .ok (.iload_n 2, 1) := by decide +kernel
theorem dX5_saleFault_47 : decode cX5_saleFault 47 = .ok (.ireturn, 1) := by decide +kernel
theorem dX5_price_0 : decode cX5_price 0 = .ok (.aload_n 0, 1) := by decide +kernel
theorem dX5_price_1 : decode cX5_price 1 = .ok (.aload_n 0, 1) := by decide +kernel
theorem dX5_price_2 : decode cX5_price 2 = .ok (.iload_n 1, 1) := by decide +kernel
theorem dX5_price_3 : decode cX5_price 3 = .ok (.invokevirtual 160, 3) := by decide +kernel
theorem dX5_price_6 : decode cX5_price 6 = .ok (.invokevirtual 93, 3) := by decide +kernel
theorem dX5_price_9 : decode cX5_price 9 = .ok (.ifCond .eq 11, 3) := by decide +kernel
theorem dX5_price_12 : decode cX5_price 12 = .ok (.aload_n 0, 1) := by decide +kernel
theorem dX5_price_13 : decode cX5_price 13 = .ok (.iload_n 1, 1) := by decide +kernel
theorem dX5_price_14 : decode cX5_price 14 = .ok (.invokevirtual 157, 3) := by decide +kernel
theorem dX5_price_17 : decode cX5_price 17 = .ok (.goto 4, 3) := by decide +kernel
theorem dX5_price_20 : decode cX5_price 20 = .ok (.iconst 0, 1) := by decide +kernel
theorem dX5_price_21 : decode cX5_price 21 = .ok (.ireturn, 1) := by decide +kernel
theorem dX5_priceByBuyers_0 : decode cX5_priceByBuyers 0 = .ok (.aload_n 0, 1) := by decide +kernel
theorem dX5_priceByBuyers_1 : decode cX5_priceByBuyers 1 = .ok (.iload_n 1, 1) := by decide +kernel
theorem dX5_priceByBuyers_2 : decode cX5_priceByBuyers 2 = .ok (.invokevirtual 163, 3) := by decide +kernel
theorem dX5_priceByBuyers_5 : decode cX5_priceByBuyers 5 = .ok (.ireturn, 1) := by decide +kernel
theorem dX5_sell_0 : decode cX5_sell 0 = .ok (.aload_n 0, 1) := by decide +kernel
theorem dX5_sell_1 : decode cX5_sell 1 = .ok (.aload_n 0, 1) := by decide +kernel
theorem dX5_sell_2 : decode cX5_sell 2 = .ok (.iload_n 1, 1) := by decide +kernel
theorem dX5_sell_3 : decode cX5_sell 3 = .ok (.invokevirtual 160, 3) := by decide +kernel
theorem dX5_sell_6 : decode cX5_sell 6 = .ok (.invokevirtual 93, 3) := by decide +kernel
theorem dX5_sell_9 : decode cX5_sell 9 = .ok (.ifCond .ne 5, 3) := by decide +kernel
theorem dX5_sell_12 : decode cX5_sell 12 = .ok (.iconst 0, 1) := by decide +kernel
theorem dX5_sell_13 : decode cX5_sell 13 = .ok (.ireturn, 1) := by decide +kernel
theorem dX5_sell_14 : decode cX5_sell 14 = .ok (.aload_n 0, 1) := by decide +kernel
theorem dX5_sell_15 : decode cX5_sell 15 = .ok (.iload_n 1, 1) := by decide +kernel
theorem dX5_sell_16 : decode cX5_sell 16 = .ok (.invokevirtual 157, 3) := by decide +kernel
theorem dX5_sell_19 : decode cX5_sell 19 = .ok (.istore_n 2, 1) := by decide +kernel
theorem dX5_sell_20 : decode cX5_sell 20 = .ok (.aload_n 0, 1) := by decide +kernel
theorem dX5_sell_21 : decode cX5_sell 21 = .ok (.getfield 40, 3) := by decide +kernel
theorem dX5_sell_24 : decode cX5_sell 24 = .ok (.iload_n 1, 1) := by decide +kernel
theorem dX5_sell_25 : decode cX5_sell 25 = .ok (.aload_n 0, 1) := by decide +kernel
theorem dX5_sell_26 : decode cX5_sell 26 = .ok (.iload_n 1, 1) := by decide +kernel
theorem dX5_sell_27 : decode cX5_sell 27 = .ok (.iload_n 2, 1) := by decide +kernel
theorem dX5_sell_28 : decode cX5_sell 28 = .ok (.invokevirtual 154, 3) := by decide +kernel
theorem dX5_sell_31 : decode cX5_sell 31 = .ok (.iastore, 1) := by decide +kernel
theorem dX5_sell_32 : decode cX5_sell 32 = .ok (.aload_n 0, 1) := by decide +kernel
theorem dX5_sell_33 : decode cX5_sell 33 = .ok (.getfield 43, 3) := by decide +kernel
theorem dX5_sell_36 : decode cX5_sell 36 = .ok (.iload_n 1, 1) := by decide +kernel
theorem dX5_sell_37 : decode cX5_sell 37 = .ok (.iload_n 2, 1) := by decide +kernel
theorem dX5_sell_38 : decode cX5_sell 38 = .ok (.aload_n 0, 1) := by decide +kernel
theorem dX5_sell_39 : decode cX5_sell 39 = .ok (.getfield 22, 3) := by decide +kernel
theorem dX5_sell_42 : decode cX5_sell 42 = .ok (.iload_n 1, 1) := by decide +kernel
theorem dX5_sell_43 : decode cX5_sell 43 = .ok (.iaload, 1) := by decide +kernel
theorem dX5_sell_44 : decode cX5_sell 44 = .ok (.imul, 1) := by decide +kernel
theorem dX5_sell_45 : decode cX5_sell 45 = .ok (.iastore, 1) := by decide +kernel
theorem dX5_sell_46 : decode cX5_sell 46 = .ok (.aload_n 0, 1) := by decide +kernel
theorem dX5_sell_47 : decode cX5_sell 47 = .ok (.getfield 46, 3) := by decide +kernel
theorem dX5_sell_50 : decode cX5_sell 50 = .ok (.aload_n 0, 1) := by decide +kernel
theorem dX5_sell_51 : decode cX5_sell 51 = .ok (.getfield 40, 3) := by decide +kernel
theorem dX5_sell_54 : decode cX5_sell 54 = .ok (.iload_n 1, 1) := by decide +kernel
theorem dX5_sell_55 : decode cX5_sell 55 = .ok (.iaload, 1) := by decide +kernel
theorem dX5_sell_56 : decode cX5_sell 56 = .ok (.dup2, 1) := by decide +kernel
theorem dX5_sell_57 : decode cX5_sell 57 = .ok (.iaload, 1) := by decide +kernel
theorem dX5_sell_58 : decode cX5_sell 58 = .ok (.aload_n 0, 1) := by decide +kernel
theorem dX5_sell_59 : decode cX5_sell 59 = .ok (.getfield 43, 3) := by decide +kernel
theorem dX5_sell_62 : decode cX5_sell 62 = .ok (.iload_n 1, 1) := by decide +kernel
theorem dX5_sell_63 : decode cX5_sell 63 = .ok (.iaload, 1) := by decide +kernel
theorem dX5_sell_64 : decode cX5_sell 64 = .ok (.isub, 1) := by decide +kernel
theorem dX5_sell_65 : decode cX5_sell 65 = .ok (.iastore, 1) := by decide +kernel
theorem dX5_sell_66 : decode cX5_sell 66 = .ok (.aload_n 0, 1) := by decide +kernel
theorem dX5_sell_67 : decode cX5_sell 67 = .ok (.dup, 1) := by decide +kernel
theorem dX5_sell_68 : decode cX5_sell 68 = .ok (.getfield 127, 3) := by decide +kernel
theorem dX5_sell_71 : decode cX5_sell 71 = .ok (.aload_n 0, 1) := by decide +kernel
theorem dX5_sell_72 : decode cX5_sell 72 = .ok (.getfield 43, 3) := by decide +kernel
theorem dX5_sell_75 : decode cX5_sell 75 = .ok (.iload_n 1, 1) := by decide +kernel
theorem dX5_sell_76 : decode cX5_sell 76 = .ok (.iaload, 1) := by decide +kernel
theorem dX5_sell_77 : decode cX5_sell 77 = .ok (.i2l, 1) := by decide +kernel
theorem dX5_sell_78 : decode cX5_sell 78 = .ok (.ladd, 1) := by decide +kernel
theorem dX5_sell_79 : decode cX5_sell 79 = .ok (.putfield 127, 3) := by decide +kernel
theorem dX5_sell_82 : decode cX5_sell 82 = .ok (.aload_n 0, 1) := by decide +kernel
theorem dX5_sell_83 : decode cX5_sell 83 = .ok (.getfield 29, 3) := by decide +kernel
theorem dX5_sell_86 : decode cX5_sell 86 = .ok (.iload_n 1, 1) := by decide +kernel
theorem dX5_sell_87 : decode cX5_sell 87 = .ok (.bipush 115, 2) := by decide +kernel
theorem dX5_sell_89 : decode cX5_sell 89 = .ok (.castore, 1) := by decide +kernel
theorem dX5_sell_90 : decode cX5_sell 90 = .ok (.aload_n 0, 1) := by decide +kernel
theorem dX5_sell_91 : decode cX5_sell 91 = .ok (.getfield 40, 3) := by decide +kernel
theorem dX5_sell_94 : decode cX5_sell 94 = .ok (.iload_n 1, 1) := by decide +kernel
theorem dX5_sell_95 : decode cX5_sell 95 = .ok (.iaload, 1) := by decide +kernel
theorem dX5_sell_96 : decode cX5_sell 96 = .ok (.ireturn, 1) := by decide +kernel
theorem dX5_isSold_0 : decode cX5_isSold 0 = .ok (.aload_n 0, 1) := by decide +kernel
theorem dX5_isSold_1 : decode cX5_isSold 1 = .ok (.getfield 29, 3) := by decide +kernel
theorem dX5_isSold_4 : decode cX5_isSold 4 = .ok (.iload_n 1, 1) := by decide +kernel
theorem dX5_isSold_5 : decode cX5_isSold 5 = .ok (.caload, 1) := by decide +kernel
theorem dX5_isSold_6 : decode cX5_isSold 6 = .ok (.bipush 115, 2) := by decide +kernel
theorem dX5_isSold_8 : decode cX5_isSold 8 = .ok (.if_icmp .eq 25, 3) := by decide +kernel
theorem dX5_isSold_11 : decode cX5_isSold 11 = .ok (.aload_n 0, 1) := by decide +kernel
theorem dX5_isSold_12 : decode cX5_isSold 12 = .ok (.getfield 29, 3) := by decide +kernel
theorem dX5_isSold_15 : decode cX5_isSold 15 = .ok (.iload_n 1, 1) := by decide +kernel
theorem dX5_isSold_16 : decode cX5_isSold 16 = .ok (.caload, 1) := by decide +kernel
theorem dX5_isSold_17 : decode cX5_isSold 17 = .ok (.bipush 108, 2) := by decide +kernel
theorem dX5_isSold_19 : decode cX5_isSold 19 = .ok (.if_icmp .eq 14, 3) := by decide +kernel
theorem dX5_isSold_22 : decode cX5_isSold 22 = .ok (.aload_n 0, 1) := by decide +kernel
theorem dX5_isSold_23 : decode cX5_isSold 23 = .ok (.getfield 29, 3) := by decide +kernel
theorem dX5_isSold_26 : decode cX5_isSold 26 = .ok (.iload_n 1, 1) := by decide +kernel
theorem dX5_isSold_27 : decode cX5_isSold 27 = .ok (.caload, 1) := by decide +kernel
theorem dX5_isSold_28 : decode cX5_isSold 28 = .ok (.bipush 100, 2) := by decide +kernel
theorem dX5_isSold_30 : decode cX5_isSold 30 = .ok (.if_icmp .ne 7, 3) := by decide +kernel
theorem dX5_isSold_33 : decode cX5_isSold 33 = .ok (.iconst 1, 1) := by decide +kernel
theorem dX5_isSold_34 : decode cX5_isSold 34 = .ok (.goto 4, 3) := by decide +kernel
theorem dX5_isSold_37 : decode cX5_isSold 37 = .ok (.iconst 0, 1) := by decide +kernel
theorem dX5_isSold_38 : decode cX5_isSold 38 = .ok (.ireturn, 1) := by decide +kernel
theorem dX5_buyerOf_0 : decode cX5_buyerOf 0 = .ok (.aload_n 0, 1) := by decide +kernel
theorem dX5_buyerOf_1 : decode cX5_buyerOf 1 = .ok (.aload_n 0, 1) := by decide +kernel
theorem dX5_buyerOf_2 : decode cX5_buyerOf 2 = .ok (.iload_n 1, 1) := by decide +kernel
theorem dX5_buyerOf_3 : decode cX5_buyerOf 3 = .ok (.invokevirtual 110, 3) := by decide +kernel
theorem dX5_buyerOf_6 : decode cX5_buyerOf 6 = .ok (.ifCond .eq 13, 3) := by decide +kernel
theorem dX5_buyerOf_9 : decode cX5_buyerOf 9 = .ok (.aload_n 0, 1) := by decide +kernel
theorem dX5_buyerOf_10 : decode cX5_buyerOf 10 = .ok (.getfield 40, 3) := by decide +kernel
theorem dX5_buyerOf_13 : decode cX5_buyerOf 13 = .ok (.iload_n 1, 1) := by decide +kernel
theorem dX5_buyerOf_14 : decode cX5_buyerOf 14 = .ok (.iaload, 1) := by decide +kernel
theorem dX5_buyerOf_15 : decode cX5_buyerOf 15 = .ok (.iconst (-1), 1) := by decide +kernel
theorem dX5_buyerOf_16 : decode cX5_buyerOf 16 = .ok (.if_icmp .ne 7, 3) := by decide +kernel
theorem dX5_buyerOf_19 : decode cX5_buyerOf 19 = .ok (.iconst 1, 1) := by decide +kernel
theorem dX5_buyerOf_20 : decode cX5_buyerOf 20 = .ok (.goto 4, 3) := by decide +kernel
theorem dX5_buyerOf_23 : decode cX5_buyerOf 23 = .ok (.iconst 0, 1) := by decide +kernel
theorem dX5_buyerOf_24 : decode cX5_buyerOf 24 = .ok (.invokevirtual 93, 3) := by decide +kernel
theorem dX5_buyerOf_27 : decode cX5_buyerOf 27 = .ok (.ifCond .eq 12, 3) := by decide +kernel
theorem dX5_buyerOf_30 : decode cX5_buyerOf 30 = .ok (.aload_n 0, 1) := by decide +kernel
theorem dX5_buyerOf_31 : decode cX5_buyerOf 31 = .ok (.getfield 40, 3) := by decide +kernel
theorem dX5_buyerOf_34 : decode cX5_buyerOf 34 = .ok (.iload_n 1, 1) := by decide +kernel
theorem dX5_buyerOf_35 : decode cX5_buyerOf 35 = .ok (.iaload, 1) := by decide +kernel
theorem dX5_buyerOf_36 : decode cX5_buyerOf 36 = .ok (.goto 4, 3) := by decide +kernel
theorem dX5_buyerOf_39 : decode cX5_buyerOf 39 = .ok (.iconst 0, 1) := by decide +kernel
theorem dX5_buyerOf_40 : decode cX5_buyerOf 40 = .ok (.ireturn, 1) := by decide +kernel
theorem dX5_paidFor_0 : decode cX5_paidFor 0 = .ok (.aload_n 0, 1) := by decide +kernel
theorem dX5_paidFor_1 : decode cX5_paidFor 1 = .ok (.aload_n 0, 1) := by decide +kernel
theorem dX5_paidFor_2 : decode cX5_paidFor 2 = .ok (.iload_n 1, 1) := by decide +kernel
theorem dX5_paidFor_3 : decode cX5_paidFor 3 = .ok (.invokevirtual 110, 3) := by decide +kernel
theorem dX5_paidFor_6 : decode cX5_paidFor 6 = .ok (.ifCond .eq 7, 3) := by decide +kernel
theorem dX5_paidFor_9 : decode cX5_paidFor 9 = .ok (.iconst 0, 1) := by decide +kernel
theorem dX5_paidFor_10 : decode cX5_paidFor 10 = .ok (.goto 4, 3) := by decide +kernel
theorem dX5_paidFor_13 : decode cX5_paidFor 13 = .ok (.iconst 1, 1) := by decide +kernel
theorem dX5_paidFor_14 : decode cX5_paidFor 14 = .ok (.invokevirtual 93, 3) := by decide +kernel
theorem dX5_paidFor_17 : decode cX5_paidFor 17 = .ok (.ifCond .eq 12, 3) := by decide +kernel
theorem dX5_paidFor_20 : decode cX5_paidFor 20 = .ok (.aload_n 0, 1) := by decide +kernel
theorem dX5_paidFor_21 : decode cX5_paidFor 21 = .ok (.getfield 43, 3) := by decide +kernel
theorem dX5_paidFor_24 : decode cX5_paidFor 24 = .ok (.iload_n 1, 1) := by decide +kernel
theorem dX5_paidFor_25 : decode cX5_paidFor 25 = .ok (.iaload, 1) := by decide +kernel
theorem dX5_paidFor_26 : decode cX5_paidFor 26 = .ok (.goto 4, 3) := by decide +kernel
theorem dX5_paidFor_29 : decode cX5_paidFor 29 = .ok (.iconst 0, 1) := by decide +kernel
theorem dX5_paidFor_30 : decode cX5_paidFor 30 = .ok (.ireturn, 1) := by decide +kernel
theorem dX5_addTruck_0 : decode cX5_addTruck 0 = .ok (.iload_n 1, 1) := by decide +kernel
theorem dX5_addTruck_1 : decode cX5_addTruck 1 = .ok (.aload_n 0, 1) := by decide +kernel
theorem dX5_addTruck_2 : decode cX5_addTruck 2 = .ok (.getfield 135, 3) := by decide +kernel
theorem dX5_addTruck_5 : decode cX5_addTruck 5 = .ok (.iconst 1, 1) := by decide +kernel
theorem dX5_addTruck_6 : decode cX5_addTruck 6 = .ok (.iadd, 1) := by decide +kernel
theorem dX5_addTruck_7 : decode cX5_addTruck 7 = .ok (.sipush 1000, 3) := by decide +kernel
theorem dX5_addTruck_10 : decode cX5_addTruck 10 = .ok (.invokestatic 80, 3) := by decide +kernel
theorem dX5_addTruck_13 : decode cX5_addTruck 13 = .ok (.ifCond .eq 15, 3) := by decide +kernel
theorem dX5_addTruck_16 : decode cX5_addTruck 16 = .ok (.iload_n 2, 1) := by decide +kernel
theorem dX5_addTruck_17 : decode cX5_addTruck 17 = .ok (.bipush 100, 2) := by decide +kernel
theorem dX5_addTruck_19 : decode cX5_addTruck 19 = .ok (.sipush 9999, 3) := by decide +kernel
theorem dX5_addTruck_22 : decode cX5_addTruck 22 = .ok (.invokestatic 80, 3) := by decide +kernel
theorem dX5_addTruck_25 : decode cX5_addTruck 25 = .ok (.ifCond .ne 7, 3) := by decide +kernel
theorem dX5_addTruck_28 : decode cX5_addTruck 28 = .ok (.iconst 1, 1) := by decide +kernel
theorem dX5_addTruck_29 : decode cX5_addTruck 29 = .ok (.goto 4, 3) := by decide +kernel
theorem dX5_addTruck_32 : decode cX5_addTruck 32 = .ok (.iconst 0, 1) := by decide +kernel
theorem dX5_addTruck_33 : decode cX5_addTruck 33 = .ok (.istore 4, 2) := by decide +kernel
theorem dX5_addTruck_35 : decode cX5_addTruck 35 = .ok (.aload_n 0, 1) := by decide +kernel
theorem dX5_addTruck_36 : decode cX5_addTruck 36 = .ok (.iload 4, 2) := by decide +kernel
theorem dX5_addTruck_38 : decode cX5_addTruck 38 = .ok (.ifCond .eq 7, 3) := by decide +kernel
theorem dX5_addTruck_41 : decode cX5_addTruck 41 = .ok (.iconst 1, 1) := by decide +kernel
theorem dX5_addTruck_42 : decode cX5_addTruck 42 = .ok (.goto 16, 3) := by decide +kernel
theorem dX5_addTruck_45 : decode cX5_addTruck 45 = .ok (.aload_n 0, 1) := by decide +kernel
theorem dX5_addTruck_46 : decode cX5_addTruck 46 = .ok (.getfield 90, 3) := by decide +kernel
theorem dX5_addTruck_49 : decode cX5_addTruck 49 = .ok (.iconst 4, 1) := by decide +kernel
theorem dX5_addTruck_50 : decode cX5_addTruck 50 = .ok (.if_icmp .ne 7, 3) := by decide +kernel
theorem dX5_addTruck_53 : decode cX5_addTruck 53 = .ok (.iconst 2, 1) := by decide +kernel
theorem dX5_addTruck_54 : decode cX5_addTruck 54 = .ok (.goto 4, 3) := by decide +kernel
theorem dX5_addTruck_57 : decode cX5_addTruck 57 = .ok (.iconst 0, 1) := by decide +kernel
theorem dX5_addTruck_58 : decode cX5_addTruck 58 = .ok (.invokevirtual 93, 3) := by decide +kernel
theorem dX5_addTruck_61 : decode cX5_addTruck 61 = .ok (.ifCond .ne 5, 3) := by decide +kernel
theorem dX5_addTruck_64 : decode cX5_addTruck 64 = .ok (.iconst 0, 1) := by decide +kernel
theorem dX5_addTruck_65 : decode cX5_addTruck 65 = .ok (.ireturn, 1) := by decide +kernel
theorem dX5_addTruck_66 : decode cX5_addTruck 66 = .ok (.aload_n 0, 1) := by decide +kernel
theorem dX5_addTruck_67 : decode cX5_addTruck 67 = .ok (.getfield 59, 3) := by decide +kernel
theorem dX5_addTruck_70 : decode cX5_addTruck 70 = .ok (.aload_n 0, 1) := by decide +kernel
theorem dX5_addTruck_71 : decode cX5_addTruck 71 = .ok (.getfield 90, 3) := by decide +kernel
theorem dX5_addTruck_74 : decode cX5_addTruck 74 = .ok (.iload_n 1, 1) := by decide +kernel
theorem dX5_addTruck_75 : decode cX5_addTruck 75 = .ok (.iastore, 1) := by decide +kernel
theorem dX5_addTruck_76 : decode cX5_addTruck 76 = .ok (.aload_n 0, 1) := by decide +kernel
theorem dX5_addTruck_77 : decode cX5_addTruck 77 = .ok (.getfield 62, 3) := by decide +kernel
theorem dX5_addTruck_80 : decode cX5_addTruck 80 = .ok (.aload_n 0, 1) := by decide +kernel
theorem dX5_addTruck_81 : decode cX5_addTruck 81 = .ok (.getfield 90, 3) := by decide +kernel
theorem dX5_addTruck_84 : decode cX5_addTruck 84 = .ok (.iload_n 2, 1) := by decide +kernel
theorem dX5_addTruck_85 : decode cX5_addTruck 85 = .ok (.iastore, 1) := by decide +kernel
theorem dX5_addTruck_86 : decode cX5_addTruck 86 = .ok (.aload_n 0, 1) := by decide +kernel
theorem dX5_addTruck_87 : decode cX5_addTruck 87 = .ok (.getfield 65, 3) := by decide +kernel
theorem dX5_addTruck_90 : decode cX5_addTruck 90 = .ok (.aload_n 0, 1) := by decide +kernel
theorem dX5_addTruck_91 : decode cX5_addTruck 91 = .ok (.getfield 90, 3) := by decide +kernel
theorem dX5_addTruck_94 : decode cX5_addTruck 94 = .ok (.iload_n 3, 1) := by decide +kernel
theorem dX5_addTruck_95 : decode cX5_addTruck 95 = .ok (.bastore, 1) := by decide +kernel
theorem dX5_addTruck_96 : decode cX5_addTruck 96 = .ok (.aload_n 0, 1) := by decide +kernel
theorem dX5_addTruck_97 : decode cX5_addTruck 97 = .ok (.dup, 1) := by decide +kernel
theorem dX5_addTruck_98 : decode cX5_addTruck 98 = .ok (.getfield 90, 3) := by decide +kernel
theorem dX5_addTruck_101 : decode cX5_addTruck 101 = .ok (.iconst 1, 1) := by decide +kernel
theorem dX5_addTruck_102 : decode cX5_addTruck 102 = .ok (.iadd, 1) := by decide +kernel
theorem dX5_addTruck_103 : decode cX5_addTruck 103 = .ok (.putfield 90, 3) := by decide +kernel
theorem dX5_addTruck_106 : decode cX5_addTruck 106 = .ok (.aload_n 0, 1) := by decide +kernel
theorem dX5_addTruck_107 : decode cX5_addTruck 107 = .ok (.getfield 90, 3) := by decide +kernel
theorem dX5_addTruck_110 : decode cX5_addTruck 110 = .ok (.iconst 1, 1) := by decide +kernel
theorem dX5_addTruck_111 : decode cX5_addTruck 111 = .ok (.isub, 1) := by decide +kernel
theorem dX5_addTruck_112 : decode cX5_addTruck 112 = .ok (.ireturn, 1) := by decide +kernel
theorem dX5_load_0 : decode cX5_load 0 = .ok (.aload_n 0, 1) := by decide +kernel
theorem dX5_load_1 : decode cX5_load 1 = .ok (.iload_n 1, 1) := by decide +kernel
theorem dX5_load_2 : decode cX5_load 2 = .ok (.invokevirtual 110, 3) := by decide +kernel
theorem dX5_load_5 : decode cX5_load 5 = .ok (.ifCond .ne 7, 3) := by decide +kernel
theorem dX5_load_8 : decode cX5_load 8 = .ok (.iconst 1, 1) := by decide +kernel
theorem dX5_load_9 : decode cX5_load 9 = .ok (.goto 16, 3) := by decide +kernel
theorem dX5_load_12 : decode cX5_load 12 = .ok (.aload_n 0, 1) := by decide +kernel
theorem dX5_load_13 : decode cX5_load 13 = .ok (.iload_n 2, 1) := by decide +kernel
theorem dX5_load_14 : decode cX5_load 14 = .ok (.invokevirtual 166, 3) := by decide +kernel
theorem dX5_load_17 : decode cX5_load 17 = .ok (.ifCond .ne 7, 3) := by decide +kernel
theorem dX5_load_20 : decode cX5_load 20 = .ok (.iconst 2, 1) := by decide +kernel
theorem dX5_load_21 : decode cX5_load 21 = .ok (.goto 4, 3) := by decide +kernel
theorem dX5_load_24 : decode cX5_load 24 = .ok (.iconst 0, 1) := by decide +kernel
theorem dX5_load_25 : decode cX5_load 25 = .ok (.istore_n 3, 1) := by decide +kernel
theorem dX5_load_26 : decode cX5_load 26 = .ok (.iload_n 3, 1) := by decide +kernel
theorem dX5_load_27 : decode cX5_load 27 = .ok (.ifCond .ne 92, 3) := by decide +kernel
theorem dX5_load_30 : decode cX5_load 30 = .ok (.aload_n 0, 1) := by decide +kernel
theorem dX5_load_31 : decode cX5_load 31 = .ok (.getfield 29, 3) := by decide +kernel
theorem dX5_load_34 : decode cX5_load 34 = .ok (.iload_n 1, 1) := by decide +kernel
theorem dX5_load_35 : decode cX5_load 35 = .ok (.caload, 1) := by decide +kernel
theorem dX5_load_36 : decode cX5_load 36 = .ok (.bipush 115, 2) := by decide +kernel
theorem dX5_load_38 : decode cX5_load 38 = .ok (.if_icmp .ne 41, 3) := by decide +kernel
theorem dX5_load_41 : decode cX5_load 41 = .ok (.aload_n 0, 1) := by decide +kernel
theorem dX5_load_42 : decode cX5_load 42 = .ok (.getfield 59, 3) := by decide +kernel
theorem dX5_load_45 : decode cX5_load 45 = .ok (.iload_n 2, 1) := by decide +kernel
theorem dX5_load_46 : decode cX5_load 46 = .ok (.iaload, 1) := by decide +kernel
theorem dX5_load_47 : decode cX5_load 47 = .ok (.aload_n 0, 1) := by decide +kernel
theorem dX5_load_48 : decode cX5_load 48 = .ok (.getfield 135, 3) := by decide +kernel
theorem dX5_load_51 : decode cX5_load 51 = .ok (.if_icmp .le 28, 3) := by decide +kernel
theorem dX5_load_54 : decode cX5_load 54 = .ok (.aload_n 0, 1) := by decide +kernel
theorem dX5_load_55 : decode cX5_load 55 = .ok (.getfield 68, 3) := by decide +kernel
theorem dX5_load_58 : decode cX5_load 58 = .ok (.iload_n 2, 1) := by decide +kernel
theorem dX5_load_59 : decode cX5_load 59 = .ok (.iaload, 1) := by decide +kernel
theorem dX5_load_60 : decode cX5_load 60 = .ok (.iconst 5, 1) := by decide +kernel
theorem dX5_load_61 : decode cX5_load 61 = .ok (.if_icmp .eq 18, 3) := by decide +kernel
theorem dX5_load_64 : decode cX5_load 64 = .ok (.aload_n 0, 1) := by decide +kernel
theorem dX5_load_65 : decode cX5_load 65 = .ok (.getfield 62, 3) := by decide +kernel
theorem dX5_load_68 : decode cX5_load 68 = .ok (.iload_n 2, 1) := by decide +kernel
theorem dX5_load_69 : decode cX5_load 69 = .ok (.iaload, 1) := by decide +kernel
theorem dX5_load_70 : decode cX5_load 70 = .ok (.aload_n 0, 1) := by decide +kernel
theorem dX5_load_71 : decode cX5_load 71 = .ok (.getfield 22, 3) := by decide +kernel
theorem dX5_load_74 : decode cX5_load 74 = .ok (.iload_n 1, 1) := by decide +kernel
theorem dX5_load_75 : decode cX5_load 75 = .ok (.iaload, 1) := by decide +kernel
theorem dX5_load_76 : decode cX5_load 76 = .ok (.if_icmp .ge 7, 3) := by decide +kernel
theorem dX5_load_79 : decode cX5_load 79 = .ok (.iconst 1, 1) := by decide +kernel
theorem dX5_load_80 : decode cX5_load 80 = .ok (.goto 4, 3) := by decide +kernel
theorem dX5_load_83 : decode cX5_load 83 = .ok (.iconst 0, 1) := by decide +kernel
theorem dX5_load_84 : decode cX5_load 84 = .ok (.istore 4, 2) := by decide +kernel
theorem dX5_load_86 : decode cX5_load 86 = .ok (.iload 4, 2) := by decide +kernel
theorem dX5_load_88 : decode cX5_load 88 = .ok (.ifCond .eq 7, 3) := by decide +kernel
theorem dX5_load_91 : decode cX5_load 91 = .ok (.iconst 3, 1) := by decide +kernel
theorem dX5_load_92 : decode cX5_load 92 = .ok (.goto 26, 3) := by decide +kernel
theorem dX5_load_95 : decode cX5_load 95 = .ok (.aload_n 0, 1) := by decide +kernel
theorem dX5_load_96 : decode cX5_load 96 = .ok (.getfield 65, 3) := by decide +kernel
theorem dX5_load_99 : decode cX5_load 99 = .ok (.iload_n 2, 1) := by decide +kernel
theorem dX5_load_100 : decode cX5_load 100 = .ok (.baload, 1) := by decide +kernel
theorem dX5_load_101 : decode cX5_load 101 = .ok (.ifCond .eq 16, 3) := by decide +kernel
theorem dX5_load_104 : decode cX5_load 104 = .ok (.aload_n 0, 1) := by decide +kernel
theorem dX5_load_105 : decode cX5_load 105 = .ok (.getfield 25, 3) := by decide +kernel
theorem dX5_load_108 : decode cX5_load 108 = .ok (.iload_n 1, 1) := by decide +kernel
theorem dX5_load_109 : decode cX5_load 109 = .ok (.baload, 1) := by decide +kernel
theorem dX5_load_110 : decode cX5_load 110 = .ok (.ifCond .ne 7, 3) := by decide +kernel
theorem dX5_load_113 : decode cX5_load 113 = .ok (.iconst 4, 1) := by decide +kernel
theorem dX5_load_114 : decode cX5_load 114 = .ok (.goto 4, 3) := by decide +kernel
theorem dX5_load_117 : decode cX5_load 117 = .ok (.iconst 0, 1) := by decide +kernel
theorem dX5_load_118 : decode cX5_load 118 = .ok (.istore_n 3, 1) := by decide +kernel
theorem dX5_load_119 : decode cX5_load 119 = .ok (.aload_n 0, 1) := by decide +kernel
theorem dX5_load_120 : decode cX5_load 120 = .ok (.iload_n 3, 1) := by decide +kernel
theorem dX5_load_121 : decode cX5_load 121 = .ok (.invokevirtual 93, 3) := by decide +kernel
theorem dX5_load_124 : decode cX5_load 124 = .ok (.ifCond .ne 5, 3) := by decide +kernel
theorem dX5_load_127 : decode cX5_load 127 = .ok (.iconst 0, 1) := by decide +kernel
theorem dX5_load_128 : decode cX5_load 128 = .ok (.ireturn, 1) := by decide +kernel
theorem dX5_load_129 : decode cX5_load 129 = .ok (.aload_n 0, 1) := by decide +kernel
theorem dX5_load_130 : decode cX5_load 130 = .ok (.getfield 29, 3) := by decide +kernel
theorem dX5_load_133 : decode cX5_load 133 = .ok (.iload_n 1, 1) := by decide +kernel
theorem dX5_load_134 : decode cX5_load 134 = .ok (.bipush 108, 2) := by decide +kernel
theorem dX5_load_136 : decode cX5_load 136 = .ok (.castore, 1) := by decide +kernel
theorem dX5_load_137 : decode cX5_load 137 = .ok (.aload_n 0, 1) := by decide +kernel
theorem dX5_load_138 : decode cX5_load 138 = .ok (.getfield 71, 3) := by decide +kernel
theorem dX5_load_141 : decode cX5_load 141 = .ok (.iconst 5, 1) := by decide +kernel
theorem dX5_load_142 : decode cX5_load 142 = .ok (.iload_n 2, 1) := by decide +kernel
theorem dX5_load_143 : decode cX5_load 143 = .ok (.imul, 1) := by decide +kernel
theorem dX5_load_144 : decode cX5_load 144 = .ok (.aload_n 0, 1) := by decide +kernel
theorem dX5_load_145 : decode cX5_load 145 = .ok (.getfield 68, 3) := by decide +kernel
theorem dX5_load_148 : decode cX5_load 148 = .ok (.iload_n 2, 1) := by decide +kernel
theorem dX5_load_149 : decode cX5_load 149 = .ok (.iaload, 1) := by decide +kernel
theorem dX5_load_150 : decode cX5_load 150 = .ok (.iadd, 1) := by decide +kernel
theorem dX5_load_151 : decode cX5_load 151 = .ok (.iload_n 1, 1) := by decide +kernel
theorem dX5_load_152 : decode cX5_load 152 = .ok (.iastore, 1) := by decide +kernel
theorem dX5_load_153 : decode cX5_load 153 = .ok (.aload_n 0, 1) := by decide +kernel
theorem dX5_load_154 : decode cX5_load 154 = .ok (.getfield 68, 3) := by decide +kernel
theorem dX5_load_157 : decode cX5_load 157 = .ok (.iload_n 2, 1) := by decide +kernel
theorem dX5_load_158 : decode cX5_load 158 = .ok (.dup2, 1) := by decide +kernel
theorem dX5_load_159 : decode cX5_load 159 = .ok (.iaload, 1) := by decide +kernel
theorem dX5_load_160 : decode cX5_load 160 = .ok (.iconst 1, 1) := by decide +kernel
theorem dX5_load_161 : decode cX5_load 161 = .ok (.iadd, 1) := by decide +kernel
theorem dX5_load_162 : decode cX5_load 162 = .ok (.iastore, 1) := by decide +kernel
theorem dX5_load_163 : decode cX5_load 163 = .ok (.aload_n 0, 1) := by decide +kernel
theorem dX5_load_164 : decode cX5_load 164 = .ok (.getfield 62, 3) := by decide +kernel
theorem dX5_load_167 : decode cX5_load 167 = .ok (.iload_n 2, 1) := by decide +kernel
theorem dX5_load_168 : decode cX5_load 168 = .ok (.dup2, 1) := by decide +kernel
theorem dX5_load_169 : decode cX5_load 169 = .ok (.iaload, 1) := by decide +kernel
theorem dX5_load_170 : decode cX5_load 170 = .ok (.aload_n 0, 1) := by decide +kernel
theorem dX5_load_171 : decode cX5_load 171 = .ok (.getfield 22, 3) := by decide +kernel
theorem dX5_load_174 : decode cX5_load 174 = .ok (.iload_n 1, 1) := by decide +kernel
theorem dX5_load_175 : decode cX5_load 175 = .ok (.iaload, 1) := by decide +kernel
theorem dX5_load_176 : decode cX5_load 176 = .ok (.isub, 1) := by decide +kernel
theorem dX5_load_177 : decode cX5_load 177 = .ok (.iastore, 1) := by decide +kernel
theorem dX5_load_178 : decode cX5_load 178 = .ok (.aload_n 0, 1) := by decide +kernel
theorem dX5_load_179 : decode cX5_load 179 = .ok (.getfield 62, 3) := by decide +kernel
theorem dX5_load_182 : decode cX5_load 182 = .ok (.iload_n 2, 1) := by decide +kernel
theorem dX5_load_183 : decode cX5_load 183 = .ok (.iaload, 1) := by decide +kernel
theorem dX5_load_184 : decode cX5_load 184 = .ok (.ireturn, 1) := by decide +kernel
theorem dX5_lotOn_0 : decode cX5_lotOn 0 = .ok (.aload_n 0, 1) := by decide +kernel
theorem dX5_lotOn_1 : decode cX5_lotOn 1 = .ok (.iload_n 1, 1) := by decide +kernel
theorem dX5_lotOn_2 : decode cX5_lotOn 2 = .ok (.invokevirtual 166, 3) := by decide +kernel
theorem dX5_lotOn_5 : decode cX5_lotOn 5 = .ok (.ifCond .ne 7, 3) := by decide +kernel
theorem dX5_lotOn_8 : decode cX5_lotOn 8 = .ok (.iconst 1, 1) := by decide +kernel
theorem dX5_lotOn_9 : decode cX5_lotOn 9 = .ok (.goto 4, 3) := by decide +kernel
theorem dX5_lotOn_12 : decode cX5_lotOn 12 = .ok (.iconst 0, 1) := by decide +kernel
theorem dX5_lotOn_13 : decode cX5_lotOn 13 = .ok (.istore_n 3, 1) := by decide +kernel
theorem dX5_lotOn_14 : decode cX5_lotOn 14 = .ok (.iload_n 3, 1) := by decide +kernel
theorem dX5_lotOn_15 : decode cX5_lotOn 15 = .ok (.ifCond .ne 23, 3) := by decide +kernel
theorem dX5_lotOn_18 : decode cX5_lotOn 18 = .ok (.iload_n 2, 1) := by decide +kernel
theorem dX5_lotOn_19 : decode cX5_lotOn 19 = .ok (.iconst 0, 1) := by decide +kernel
theorem dX5_lotOn_20 : decode cX5_lotOn 20 = .ok (.aload_n 0, 1) := by decide +kernel
theorem dX5_lotOn_21 : decode cX5_lotOn 21 = .ok (.getfield 68, 3) := by decide +kernel
theorem dX5_lotOn_24 : decode cX5_lotOn 24 = .ok (.iload_n 1, 1) := by decide +kernel
theorem dX5_lotOn_25 : decode cX5_lotOn 25 = .ok (.iaload, 1) := by decide +kernel
theorem dX5_lotOn_26 : decode cX5_lotOn 26 = .ok (.iconst 1, 1) := by decide +kernel
theorem dX5_lotOn_27 : decode cX5_lotOn 27 = .ok (.isub, 1) := by decide +kernel
theorem dX5_lotOn_28 : decode cX5_lotOn 28 = .ok (.invokestatic 80, 3) := by decide +kernel
theorem dX5_lotOn_31 : decode cX5_lotOn 31 = .ok (.ifCond .ne 7, 3) := by decide +kernel
theorem dX5_lotOn_34 : decode cX5_lotOn 34 = .ok (.iconst 2, 1) := by decide +kernel
theorem dX5_lotOn_35 : decode cX5_lotOn 35 = .ok (.goto 4, 3) := by decide +kernel
theorem dX5_lotOn_38 : decode cX5_lotOn 38 = .ok (.iload_n 3, 1) := by decide +kernel
theorem dX5_lotOn_39 : decode cX5_lotOn 39 = .ok (.istore_n 3, 1) := by decide +kernel
theorem dX5_lotOn_40 : decode cX5_lotOn 40 = .ok (.aload_n 0, 1) := by decide +kernel
theorem dX5_lotOn_41 : decode cX5_lotOn 41 = .ok (.iload_n 3, 1) := by decide +kernel
theorem dX5_lotOn_42 : decode cX5_lotOn 42 = .ok (.invokevirtual 93, 3) := by decide +kernel
theorem dX5_lotOn_45 : decode cX5_lotOn 45 = .ok (.ifCond .eq 16, 3) := by decide +kernel
theorem dX5_lotOn_48 : decode cX5_lotOn 48 = .ok (.aload_n 0, 1) := by decide +kernel
theorem dX5_lotOn_49 : decode cX5_lotOn 49 = .ok (.getfield 71, 3) := by decide +kernel
theorem dX5_lotOn_52 : decode cX5_lotOn 52 = .ok (.iconst 5, 1) := by decide +kernel
theorem dX5_lotOn_53 : decode cX5_lotOn 53 = .ok (.iload_n 1, 1) := by decide +kernel
theorem dX5_lotOn_54 : decode cX5_lotOn 54 = .ok (.imul, 1) := by decide +kernel
theorem dX5_lotOn_55 : decode cX5_lotOn 55 = .ok (.iload_n 2, 1) := by decide +kernel
theorem dX5_lotOn_56 : decode cX5_lotOn 56 = .ok (.iadd, 1) := by decide +kernel
theorem dX5_lotOn_57 : decode cX5_lotOn 57 = .ok (.iaload, 1) := by decide +kernel
theorem dX5_lotOn_58 : decode cX5_lotOn 58 = .ok (.goto 4, 3) := by decide +kernel
theorem dX5_lotOn_61 : decode cX5_lotOn 61 = .ok (.iconst 0, 1) := by decide +kernel
theorem dX5_lotOn_62 : decode cX5_lotOn 62 = .ok (.ireturn, 1) := by decide +kernel
theorem dX5_income_0 : decode cX5_income 0 = .ok (.aload_n 0, 1) := by decide +kernel
theorem dX5_income_1 : decode cX5_income 1 = .ok (.iconst 0, 1) := by decide +kernel
theorem dX5_income_2 : decode cX5_income 2 = .ok (.putfield 74, 3) := by decide +kernel
theorem dX5_income_5 : decode cX5_income 5 = .ok (.aload_n 0, 1) := by decide +kernel
theorem dX5_income_6 : decode cX5_income 6 = .ok (.getfield 127, 3) := by decide +kernel
theorem dX5_income_9 : decode cX5_income 9 = .ok (.lreturn, 1) := by decide +kernel
theorem dX5_incomeByLots_0 : decode cX5_incomeByLots 0 = .ok (.aload_n 0, 1) := by decide +kernel
theorem dX5_incomeByLots_1 : decode cX5_incomeByLots 1 = .ok (.iconst 0, 1) := by decide +kernel
theorem dX5_incomeByLots_2 : decode cX5_incomeByLots 2 = .ok (.putfield 74, 3) := by decide +kernel
theorem dX5_incomeByLots_5 : decode cX5_incomeByLots 5 = .ok (.aload_n 0, 1) := by decide +kernel
theorem dX5_incomeByLots_6 : decode cX5_incomeByLots 6 = .ok (.getfield 127, 3) := by decide +kernel
theorem dX5_incomeByLots_9 : decode cX5_incomeByLots 9 = .ok (.lreturn, 1) := by decide +kernel
theorem dX5_spoiled_0 : decode cX5_spoiled 0 = .ok (.aload_n 0, 1) := by decide +kernel
theorem dX5_spoiled_1 : decode cX5_spoiled 1 = .ok (.iconst 0, 1) := by decide +kernel
theorem dX5_spoiled_2 : decode cX5_spoiled 2 = .ok (.putfield 74, 3) := by decide +kernel
theorem dX5_spoiled_5 : decode cX5_spoiled 5 = .ok (.iconst 0, 1) := by decide +kernel
theorem dX5_spoiled_6 : decode cX5_spoiled 6 = .ok (.istore_n 1, 1) := by decide +kernel
theorem dX5_spoiled_7 : decode cX5_spoiled 7 = .ok (.iconst 0, 1) := by decide +kernel
theorem dX5_spoiled_8 : decode cX5_spoiled 8 = .ok (.istore_n 2, 1) := by decide +kernel
theorem dX5_spoiled_9 : decode cX5_spoiled 9 = .ok (.iload_n 2, 1) := by decide +kernel
theorem dX5_spoiled_10 : decode cX5_spoiled 10 = .ok (.aload_n 0, 1) := by decide +kernel
theorem dX5_spoiled_11 : decode cX5_spoiled 11 = .ok (.getfield 84, 3) := by decide +kernel
theorem dX5_spoiled_14 : decode cX5_spoiled 14 = .ok (.if_icmp .ge 33, 3) := by decide +kernel
theorem dX5_spoiled_17 : decode cX5_spoiled 17 = .ok (.iload_n 1, 1) := by decide +kernel
theorem dX5_spoiled_18 : decode cX5_spoiled 18 = .ok (.aload_n 0, 1) := by decide +kernel
theorem dX5_spoiled_19 : decode cX5_spoiled 19 = .ok (.getfield 29, 3) := by decide +kernel
theorem dX5_spoiled_22 : decode cX5_spoiled 22 = .ok (.iload_n 2, 1) := by decide +kernel
theorem dX5_spoiled_23 : decode cX5_spoiled 23 = .ok (.caload, 1) := by decide +kernel
theorem dX5_spoiled_24 : decode cX5_spoiled 24 = .ok (.bipush 120, 2) := by decide +kernel
theorem dX5_spoiled_26 : decode cX5_spoiled 26 = .ok (.if_icmp .ne 12, 3) := by decide +kernel
theorem dX5_spoiled_29 : decode cX5_spoiled 29 = .ok (.aload_n 0, 1) := by decide +kernel
theorem dX5_spoiled_30 : decode cX5_spoiled 30 = .ok (.getfield 22, 3) := by decide +kernel
theorem dX5_spoiled_33 : decode cX5_spoiled 33 = .ok (.iload_n 2, 1) := by decide +kernel
theorem dX5_spoiled_34 : decode cX5_spoiled 34 = .ok (.iaload, 1) := by decide +kernel
theorem dX5_spoiled_35 : decode cX5_spoiled 35 = .ok (.goto 4, 3) := by decide +kernel
theorem dX5_spoiled_38 : decode cX5_spoiled 38 = .ok (.iconst 0, 1) := by decide +kernel
theorem dX5_spoiled_39 : decode cX5_spoiled 39 = .ok (.iadd, 1) := by decide +kernel
theorem dX5_spoiled_40 : decode cX5_spoiled 40 = .ok (.istore_n 1, 1) := by decide +kernel
theorem dX5_spoiled_41 : decode cX5_spoiled 41 = .ok (.iinc 2 1, 3) := by decide +kernel
theorem dX5_spoiled_44 : decode cX5_spoiled 44 = .ok (.goto (-35), 3) := by decide +kernel
theorem dX5_spoiled_47 : decode cX5_spoiled 47 = .ok (.iload_n 1, 1) := by decide +kernel
theorem dX5_spoiled_48 : decode cX5_spoiled 48 = .ok (.ireturn, 1) := by decide +kernel
theorem dX5_weights_0 : decode cX5_weights 0 = .ok (.iconst 0, 1) := by decide +kernel
theorem dX5_weights_1 : decode cX5_weights 1 = .ok (.istore_n 2, 1) := by decide +kernel
theorem dX5_weights_2 : decode cX5_weights 2 = .ok (.iconst 0, 1) := by decide +kernel
theorem dX5_weights_3 : decode cX5_weights 3 = .ok (.istore_n 3, 1) := by decide +kernel
theorem dX5_weights_4 : decode cX5_weights 4 = .ok (.iload_n 3, 1) := by decide +kernel
theorem dX5_weights_5 : decode cX5_weights 5 = .ok (.aload_n 0, 1) := by decide +kernel
theorem dX5_weights_6 : decode cX5_weights 6 = .ok (.getfield 84, 3) := by decide +kernel
theorem dX5_weights_9 : decode cX5_weights 9 = .ok (.if_icmp .ge 34, 3) := by decide +kernel
theorem dX5_weights_12 : decode cX5_weights 12 = .ok (.iload_n 2, 1) := by decide +kernel
theorem dX5_weights_13 : decode cX5_weights 13 = .ok (.iload_n 1, 1) := by decide +kernel
theorem dX5_weights_14 : decode cX5_weights 14 = .ok (.ifCond .eq 11, 3) := by decide +kernel
theorem dX5_weights_17 : decode cX5_weights 17 = .ok (.aload_n 0, 1) := by decide +kernel
theorem dX5_weights_18 : decode cX5_weights 18 = .ok (.iload_n 3, 1) := by decide +kernel
theorem dX5_weights_19 : decode cX5_weights 19 = .ok (.invokevirtual 169, 3) := by decide +kernel
theorem dX5_weights_22 : decode cX5_weights 22 = .ok (.ifCond .eq 12, 3) := by decide +kernel
theorem dX5_weights_25 : decode cX5_weights 25 = .ok (.aload_n 0, 1) := by decide +kernel
theorem dX5_weights_26 : decode cX5_weights 26 = .ok (.getfield 22, 3) := by decide +kernel
theorem dX5_weights_29 : decode cX5_weights 29 = .ok (.iload_n 3, 1) := by decide +kernel
theorem dX5_weights_30 : decode cX5_weights 30 = .ok (.iaload, 1) := by decide +kernel
theorem dX5_weights_31 : decode cX5_weights 31 = .ok (.goto 4, 3) := by decide +kernel
theorem dX5_weights_34 : decode cX5_weights 34 = .ok (.iconst 0, 1) := by decide +kernel
theorem dX5_weights_35 : decode cX5_weights 35 = .ok (.iadd, 1) := by decide +kernel
theorem dX5_weights_36 : decode cX5_weights 36 = .ok (.istore_n 2, 1) := by decide +kernel
theorem dX5_weights_37 : decode cX5_weights 37 = .ok (.iinc 3 1, 3) := by decide +kernel
theorem dX5_weights_40 : decode cX5_weights 40 = .ok (.goto (-36), 3) := by decide +kernel
theorem dX5_weights_43 : decode cX5_weights 43 = .ok (.iload_n 2, 1) := by decide +kernel
theorem dX5_weights_44 : decode cX5_weights 44 = .ok (.ireturn, 1) := by decide +kernel
theorem dX5_soldShare_0 : decode cX5_soldShare 0 = .ok (.aload_n 0, 1) := by decide +kernel
theorem dX5_soldShare_1 : decode cX5_soldShare 1 = .ok (.aload_n 0, 1) := by decide +kernel
theorem dX5_soldShare_2 : decode cX5_soldShare 2 = .ok (.getfield 84, 3) := by decide +kernel
theorem dX5_soldShare_5 : decode cX5_soldShare 5 = .ok (.ifCond .ne 7, 3) := by decide +kernel
theorem dX5_soldShare_8 : decode cX5_soldShare 8 = .ok (.iconst 1, 1) := by decide +kernel
theorem dX5_soldShare_9 : decode cX5_soldShare 9 = .ok (.goto 4, 3) := by decide +kernel
theorem dX5_soldShare_12 : decode cX5_soldShare 12 = .ok (.iconst 0, 1) := by decide +kernel
theorem dX5_soldShare_13 : decode cX5_soldShare 13 = .ok (.invokevirtual 93, 3) := by decide +kernel
theorem dX5_soldShare_16 : decode cX5_soldShare 16 = .ok (.ifCond .eq 19, 3) := by decide +kernel
theorem dX5_soldShare_19 : decode cX5_soldShare 19 = .ok (.aload_n 0, 1) := by decide +kernel
theorem dX5_soldShare_20 : decode cX5_soldShare 20 = .ok (.iconst 1, 1) := by decide +kernel
theorem dX5_soldShare_21 : decode cX5_soldShare 21 = .ok (.invokevirtual 172, 3) := by decide +kernel
theorem dX5_soldShare_24 : decode cX5_soldShare 24 = .ok (.i2f, 1) := by decide +kernel
theorem dX5_soldShare_25 : decode cX5_soldShare 25 = .ok (.aload_n 0, 1) := by decide +kernel
theorem dX5_soldShare_26 : decode cX5_soldShare 26 = .ok (.iconst 0, 1) := by decide +kernel
theorem dX5_soldShare_27 : decode cX5_soldShare 27 = .ok (.invokevirtual 172, 3) := by decide +kernel
theorem dX5_soldShare_30 : decode cX5_soldShare 30 = .ok (.i2f, 1) := by decide +kernel
theorem dX5_soldShare_31 : decode cX5_soldShare 31 = .ok (.fdiv, 1) := by decide +kernel
theorem dX5_soldShare_32 : decode cX5_soldShare 32 = .ok (.goto 4, 3) := by decide +kernel
theorem dX5_soldShare_35 : decode cX5_soldShare 35 = .ok (.fconst 0, 1) := by decide +kernel
theorem dX5_soldShare_36 : decode cX5_soldShare 36 = .ok (.freturn, 1) := by decide +kernel
theorem dX5_meanPrice_0 : decode cX5_meanPrice 0 = .ok (.aload_n 0, 1) := by decide +kernel
theorem dX5_meanPrice_1 : decode cX5_meanPrice 1 = .ok (.aload_n 0, 1) := by decide +kernel
theorem dX5_meanPrice_2 : decode cX5_meanPrice 2 = .ok (.iconst 1, 1) := by decide +kernel
theorem dX5_meanPrice_3 : decode cX5_meanPrice 3 = .ok (.invokevirtual 172, 3) := by decide +kernel
theorem dX5_meanPrice_6 : decode cX5_meanPrice 6 = .ok (.ifCond .ne 7, 3) := by decide +kernel
theorem dX5_meanPrice_9 : decode cX5_meanPrice 9 = .ok (.iconst 1, 1) := by decide +kernel
theorem dX5_meanPrice_10 : decode cX5_meanPrice 10 = .ok (.goto 4, 3) := by decide +kernel
theorem dX5_meanPrice_13 : decode cX5_meanPrice 13 = .ok (.iconst 0, 1) := by decide +kernel
theorem dX5_meanPrice_14 : decode cX5_meanPrice 14 = .ok (.invokevirtual 93, 3) := by decide +kernel
theorem dX5_meanPrice_17 : decode cX5_meanPrice 17 = .ok (.ifCond .eq 18, 3) := by decide +kernel
theorem dX5_meanPrice_20 : decode cX5_meanPrice 20 = .ok (.aload_n 0, 1) := by decide +kernel
theorem dX5_meanPrice_21 : decode cX5_meanPrice 21 = .ok (.getfield 127, 3) := by decide +kernel
theorem dX5_meanPrice_24 : decode cX5_meanPrice 24 = .ok (.l2d, 1) := by decide +kernel
theorem dX5_meanPrice_25 : decode cX5_meanPrice 25 = .ok (.aload_n 0, 1) := by decide +kernel
theorem dX5_meanPrice_26 : decode cX5_meanPrice 26 = .ok (.iconst 1, 1) := by decide +kernel
theorem dX5_meanPrice_27 : decode cX5_meanPrice 27 = .ok (.invokevirtual 172, 3) := by decide +kernel
theorem dX5_meanPrice_30 : decode cX5_meanPrice 30 = .ok (.i2d, 1) := by decide +kernel
theorem dX5_meanPrice_31 : decode cX5_meanPrice 31 = .ok (.ddiv, 1) := by decide +kernel
theorem dX5_meanPrice_32 : decode cX5_meanPrice 32 = .ok (.goto 4, 3) := by decide +kernel
theorem dX5_meanPrice_35 : decode cX5_meanPrice 35 = .ok (.dconst 0, 1) := by decide +kernel
theorem dX5_meanPrice_36 : decode cX5_meanPrice 36 = .ok (.dreturn, 1) := by decide +kernel
theorem dX5_meanBits_0 : decode cX5_meanBits 0 = .ok (.aload_n 0, 1) := by decide +kernel
theorem dX5_meanBits_1 : decode cX5_meanBits 1 = .ok (.aload_n 0, 1) := by decide +kernel
theorem dX5_meanBits_2 : decode cX5_meanBits 2 = .ok (.iconst 1, 1) := by decide +kernel
theorem dX5_meanBits_3 : decode cX5_meanBits 3 = .ok (.invokevirtual 172, 3) := by decide +kernel
theorem dX5_meanBits_6 : decode cX5_meanBits 6 = .ok (.ifCond .ne 7, 3) := by decide +kernel
theorem dX5_meanBits_9 : decode cX5_meanBits 9 = .ok (.iconst 1, 1) := by decide +kernel
theorem dX5_meanBits_10 : decode cX5_meanBits 10 = .ok (.goto 4, 3) := by decide +kernel
theorem dX5_meanBits_13 : decode cX5_meanBits 13 = .ok (.iconst 0, 1) := by decide +kernel
theorem dX5_meanBits_14 : decode cX5_meanBits 14 = .ok (.invokevirtual 93, 3) := by decide +kernel
theorem dX5_meanBits_17 : decode cX5_meanBits 17 = .ok (.ifCond .eq 21, 3) := by decide +kernel
theorem dX5_meanBits_20 : decode cX5_meanBits 20 = .ok (.aload_n 0, 1) := by decide +kernel
theorem dX5_meanBits_21 : decode cX5_meanBits 21 = .ok (.getfield 127, 3) := by decide +kernel
theorem dX5_meanBits_24 : decode cX5_meanBits 24 = .ok (.l2d, 1) := by decide +kernel
theorem dX5_meanBits_25 : decode cX5_meanBits 25 = .ok (.aload_n 0, 1) := by decide +kernel
theorem dX5_meanBits_26 : decode cX5_meanBits 26 = .ok (.iconst 1, 1) := by decide +kernel
theorem dX5_meanBits_27 : decode cX5_meanBits 27 = .ok (.invokevirtual 172, 3) := by decide +kernel
theorem dX5_meanBits_30 : decode cX5_meanBits 30 = .ok (.i2d, 1) := by decide +kernel
theorem dX5_meanBits_31 : decode cX5_meanBits 31 = .ok (.ddiv, 1) := by decide +kernel
theorem dX5_meanBits_32 : decode cX5_meanBits 32 = .ok (.invokestatic 176, 3) := by decide +kernel
theorem dX5_meanBits_35 : decode cX5_meanBits 35 = .ok (.goto 4, 3) := by decide +kernel
theorem dX5_meanBits_38 : decode cX5_meanBits 38 = .ok (.lconst 0, 1) := by decide +kernel
theorem dX5_meanBits_39 : decode cX5_meanBits 39 = .ok (.lreturn, 1) := by decide +kernel
theorem dX5_isSound_0 : decode cX5_isSound 0 = .ok (.aload_n 0, 1) := by decide +kernel
theorem dX5_isSound_1 : decode cX5_isSound 1 = .ok (.iconst 0, 1) := by decide +kernel
theorem dX5_isSound_2 : decode cX5_isSound 2 = .ok (.putfield 74, 3) := by decide +kernel
theorem dX5_isSound_5 : decode cX5_isSound 5 = .ok (.iconst 1, 1) := by decide +kernel
theorem dX5_isSound_6 : decode cX5_isSound 6 = .ok (.ireturn, 1) := by decide +kernel
theorem dJx00060_init_a7421_0 : decode cJx00060_init_a7421 0 = .ok (.aload_n 0, 1) := by decide +kernel
theorem dJx00060_init_a7421_1 : decode cJx00060_init_a7421 1 = .ok (.aload_n 1, 1) := by decide +kernel
theorem dJx00060_init_a7421_2 : decode cJx00060_init_a7421 2 = .ok (.invokespecial 7, 3) := by decide +kernel
theorem dJx00060_init_a7421_5 : decode cJx00060_init_a7421 5 = .ok (.return_, 1) := by decide +kernel
theorem dJxe99ae_isNaN_b9ae7_0 : decode cJxe99ae_isNaN_b9ae7 0 = .ok (.dload_n 0, 1) := by decide +kernel
theorem dJxe99ae_isNaN_b9ae7_1 : decode cJxe99ae_isNaN_b9ae7 1 = .ok (.dload_n 0, 1) := by decide +kernel
theorem dJxe99ae_isNaN_b9ae7_2 : decode cJxe99ae_isNaN_b9ae7 2 = .ok (.dcmp .l, 1) := by decide +kernel
theorem dJxe99ae_isNaN_b9ae7_3 : decode cJxe99ae_isNaN_b9ae7 3 = .ok (.ifCond .eq 7, 3) := by decide +kernel
theorem dJxe99ae_isNaN_b9ae7_6 : decode cJxe99ae_isNaN_b9ae7 6 = .ok (.iconst 1, 1) := by decide +kernel
theorem dJxe99ae_isNaN_b9ae7_7 : decode cJxe99ae_isNaN_b9ae7 7 = .ok (.goto 4, 3) := by decide +kernel
theorem dJxe99ae_isNaN_b9ae7_10 : decode cJxe99ae_isNaN_b9ae7 10 = .ok (.iconst 0, 1) := by decide +kernel
theorem dJxe99ae_isNaN_b9ae7_11 : decode cJxe99ae_isNaN_b9ae7 11 = .ok (.ireturn, 1) := by decide +kernel
theorem dJxe99ae_doubleToLongBits_ccdee_0 : decode cJxe99ae_doubleToLongBits_ccdee 0 = .ok (.dload_n 0, 1) := by decide +kernel
theorem dJxe99ae_doubleToLongBits_ccdee_1 : decode cJxe99ae_doubleToLongBits_ccdee 1 = .ok (.invokestatic 122, 3) := by decide +kernel
theorem dJxe99ae_doubleToLongBits_ccdee_4 : decode cJxe99ae_doubleToLongBits_ccdee 4 = .ok (.ifCond .ne 8, 3) := by decide +kernel
theorem dJxe99ae_doubleToLongBits_ccdee_7 : decode cJxe99ae_doubleToLongBits_ccdee 7 = .ok (.dload_n 0, 1) := by decide +kernel
theorem dJxe99ae_doubleToLongBits_ccdee_8 : decode cJxe99ae_doubleToLongBits_ccdee 8 = .ok (.invokestatic 134, 3) := by decide +kernel
theorem dJxe99ae_doubleToLongBits_ccdee_11 : decode cJxe99ae_doubleToLongBits_ccdee 11 = .ok (.lreturn, 1) := by decide +kernel
theorem dJxe99ae_doubleToLongBits_ccdee_12 : decode cJxe99ae_doubleToLongBits_ccdee 12 = .ok (.ldc2_w 137, 3) := by decide +kernel
theorem dJxe99ae_doubleToLongBits_ccdee_15 : decode cJxe99ae_doubleToLongBits_ccdee 15 = .ok (.lreturn, 1) := by decide +kernel
theorem dJxf58ca_isNaN_12338_0 : decode cJxf58ca_isNaN_12338 0 = .ok (.fload_n 0, 1) := by decide +kernel
theorem dJxf58ca_isNaN_12338_1 : decode cJxf58ca_isNaN_12338 1 = .ok (.fload_n 0, 1) := by decide +kernel
theorem dJxf58ca_isNaN_12338_2 : decode cJxf58ca_isNaN_12338 2 = .ok (.fcmp .l, 1) := by decide +kernel
theorem dJxf58ca_isNaN_12338_3 : decode cJxf58ca_isNaN_12338 3 = .ok (.ifCond .eq 7, 3) := by decide +kernel
theorem dJxf58ca_isNaN_12338_6 : decode cJxf58ca_isNaN_12338 6 = .ok (.iconst 1, 1) := by decide +kernel
theorem dJxf58ca_isNaN_12338_7 : decode cJxf58ca_isNaN_12338 7 = .ok (.goto 4, 3) := by decide +kernel
theorem dJxf58ca_isNaN_12338_10 : decode cJxf58ca_isNaN_12338 10 = .ok (.iconst 0, 1) := by decide +kernel
theorem dJxf58ca_isNaN_12338_11 : decode cJxf58ca_isNaN_12338 11 = .ok (.ireturn, 1) := by decide +kernel
theorem dJxf58ca_floatToIntBits_5c35a_0 : decode cJxf58ca_floatToIntBits_5c35a 0 = .ok (.fload_n 0, 1) := by decide +kernel
theorem dJxf58ca_floatToIntBits_5c35a_1 : decode cJxf58ca_floatToIntBits_5c35a 1 = .ok (.invokestatic 59, 3) := by decide +kernel
theorem dJxf58ca_floatToIntBits_5c35a_4 : decode cJxf58ca_floatToIntBits_5c35a 4 = .ok (.ifCond .ne 8, 3) := by decide +kernel
theorem dJxf58ca_floatToIntBits_5c35a_7 : decode cJxf58ca_floatToIntBits_5c35a 7 = .ok (.fload_n 0, 1) := by decide +kernel
theorem dJxf58ca_floatToIntBits_5c35a_8 : decode cJxf58ca_floatToIntBits_5c35a 8 = .ok (.invokestatic 74, 3) := by decide +kernel
theorem dJxf58ca_floatToIntBits_5c35a_11 : decode cJxf58ca_floatToIntBits_5c35a 11 = .ok (.ireturn, 1) := by decide +kernel
theorem dJxf58ca_floatToIntBits_5c35a_12 : decode cJxf58ca_floatToIntBits_5c35a 12 = .ok (.ldc 77, 2) := by decide +kernel
theorem dJxf58ca_floatToIntBits_5c35a_14 : decode cJxf58ca_floatToIntBits_5c35a 14 = .ok (.ireturn, 1) := by decide +kernel
theorem dJ9_max_7cf53_0 : decode cJ9_max_7cf53 0 = .ok (.iload_n 0, 1) := by decide +kernel
theorem dJ9_max_7cf53_1 : decode cJ9_max_7cf53 1 = .ok (.iload_n 1, 1) := by decide +kernel
theorem dJ9_max_7cf53_2 : decode cJ9_max_7cf53 2 = .ok (.if_icmp .lt 7, 3) := by decide +kernel
theorem dJ9_max_7cf53_5 : decode cJ9_max_7cf53 5 = .ok (.iload_n 0, 1) := by decide +kernel
theorem dJ9_max_7cf53_6 : decode cJ9_max_7cf53 6 = .ok (.goto 4, 3) := by decide +kernel
theorem dJ9_max_7cf53_9 : decode cJ9_max_7cf53 9 = .ok (.iload_n 1, 1) := by decide +kernel
theorem dJ9_max_7cf53_10 : decode cJ9_max_7cf53 10 = .ok (.ireturn, 1) := by decide +kernel
theorem dJ9_min_7cf53_0 : decode cJ9_min_7cf53 0 = .ok (.iload_n 0, 1) := by decide +kernel
theorem dJ9_min_7cf53_1 : decode cJ9_min_7cf53 1 = .ok (.iload_n 1, 1) := by decide +kernel
theorem dJ9_min_7cf53_2 : decode cJ9_min_7cf53 2 = .ok (.if_icmp .gt 7, 3) := by decide +kernel
theorem dJ9_min_7cf53_5 : decode cJ9_min_7cf53 5 = .ok (.iload_n 0, 1) := by decide +kernel
theorem dJ9_min_7cf53_6 : decode cJ9_min_7cf53 6 = .ok (.goto 4, 3) := by decide +kernel
theorem dJ9_min_7cf53_9 : decode cJ9_min_7cf53 9 = .ok (.iload_n 1, 1) := by decide +kernel
theorem dJ9_min_7cf53_10 : decode cJ9_min_7cf53 10 = .ok (.ireturn, 1) := by decide +kernel
