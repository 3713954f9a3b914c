theorem dX0_init_0 : decode cX0_init 0 = .ok (.aload_n 0, 1) := by decide +kernel
theorem dX0_init_1 : decode cX0_init 1 = .ok (.invokespecial 3, 3) := by decide +kernel
theorem dX0_init_4 : decode cX0_init 4 = .ok (.aload_n 0, 1) := by decide +kernel
theorem dX0_init_5 : decode cX0_init 5 = .ok (.bipush 8, 2) := by decide +kernel
theorem dX0_init_7 : decode cX0_init 7 = .ok (.anewarray 9, 3) := by decide +kernel
theorem dX0_init_10 : decode cX0_init 10 = .ok (.putfield 11, 3) := by decide +kernel
theorem dX0_init_13 : decode cX0_init 13 = .ok (.iconst 0, 1) := by decide +kernel
theorem dX0_init_14 : decode cX0_init 14 = .ok (.istore_n 1, 1) := by decide +kernel
theorem dX0_init_15 : decode cX0_init 15 = .ok (.iload_n 1, 1) := by decide +kernel
theorem dX0_init_16 : decode cX0_init 16 = .ok (.bipush 8, 2) := by decide +kernel
theorem dX0_init_18 : decode cX0_init 18 = .ok (.if_icmp .ge 22, 3) := by decide +kernel
theorem dX0_init_21 : decode cX0_init 21 = .ok (.aload_n 0, 1) := by decide +kernel
theorem dX0_init_22 : decode cX0_init 22 = .ok (.getfield 11, 3) := by decide +kernel
theorem dX0_init_25 : decode cX0_init 25 = .ok (.iload_n 1, 1) := by decide +kernel
theorem dX0_init_26 : decode cX0_init 26 = .ok (.new 9, 3) := by decide +kernel
theorem dX0_init_29 : decode cX0_init 29 = .ok (.dup, 1) := by decide +kernel
theorem dX0_init_30 : decode cX0_init 30 = .ok (.invokespecial 17, 3) := by decide +kernel
theorem dX0_init_33 : decode cX0_init 33 = .ok (.aastore, 1) := by decide +kernel
theorem dX0_init_34 : decode cX0_init 34 = .ok (.iinc 1 1, 3) := by decide +kernel
theorem dX0_init_37 : decode cX0_init 37 = .ok (.goto (-22), 3) := by decide +kernel
theorem dX0_init_40 : decode cX0_init 40 = .ok (.return_, 1) := by decide +kernel
theorem dX0_keep_0 : decode cX0_keep 0 = .ok (.aload_n 0, 1) := by decide +kernel
theorem dX0_keep_1 : decode cX0_keep 1 = .ok (.getfield 18, 3) := by decide +kernel
theorem dX0_keep_4 : decode cX0_keep 4 = .ok (.bipush 8, 2) := by decide +kernel
theorem dX0_keep_6 : decode cX0_keep 6 = .ok (.if_icmp .lt 7, 3) := by decide +kernel
theorem dX0_keep_9 : decode cX0_keep 9 = .ok (.aload_n 0, 1) := by decide +kernel
theorem dX0_keep_10 : decode cX0_keep 10 = .ok (.invokevirtual 22, 3) := by decide +kernel
theorem dX0_keep_13 : decode cX0_keep 13 = .ok (.aload_n 0, 1) := by decide +kernel
theorem dX0_keep_14 : decode cX0_keep 14 = .ok (.getfield 11, 3) := by decide +kernel
theorem dX0_keep_17 : decode cX0_keep 17 = .ok (.aload_n 0, 1) := by decide +kernel
theorem dX0_keep_18 : decode cX0_keep 18 = .ok (.getfield 18, 3) := by decide +kernel
theorem dX0_keep_21 : decode cX0_keep 21 = .ok (.aaload, 1) := by decide +kernel
theorem dX0_keep_22 : decode cX0_keep 22 = .ok (.aload_n 1, 1) := by decide +kernel
theorem dX0_keep_23 : decode cX0_keep 23 = .ok (.invokevirtual 25, 3) := by decide +kernel
theorem dX0_keep_26 : decode cX0_keep 26 = .ok (.aload_n 0, 1) := by decide +kernel
theorem dX0_keep_27 : decode cX0_keep 27 = .ok (.dup, 1) := by decide +kernel
theorem dX0_keep_28 : decode cX0_keep 28 = .ok (.getfield 18, 3) := by decide +kernel
theorem dX0_keep_31 : decode cX0_keep 31 = .ok (.iconst 1, 1) := by decide +kernel
theorem dX0_keep_32 : decode cX0_keep 32 = .ok (.iadd, 1) := by decide +kernel
theorem dX0_keep_33 : decode cX0_keep 33 = .ok (.putfield 18, 3) := by decide +kernel
theorem dX0_keep_36 : decode cX0_keep 36 = .ok (.return_, 1) := by decide +kernel
theorem dX0_dropOldest_0 : decode cX0_dropOldest 0 = .ok (.aload_n 0, 1) := by decide +kernel
theorem dX0_dropOldest_1 : decode cX0_dropOldest 1 = .ok (.getfield 11, 3) := by decide +kernel
theorem dX0_dropOldest_4 : decode cX0_dropOldest 4 = .ok (.iconst 0, 1) := by decide +kernel
theorem dX0_dropOldest_5 : decode cX0_dropOldest 5 = .ok (.aaload, 1) := by decide +kernel
theorem dX0_dropOldest_6 : decode cX0_dropOldest 6 = .ok (.astore_n 1, 1) := by decide +kernel
theorem dX0_dropOldest_7 : decode cX0_dropOldest 7 = .ok (.iconst 1, 1) := by decide +kernel
theorem dX0_dropOldest_8 : decode cX0_dropOldest 8 = .ok (.istore_n 2, 1) := by decide +kernel
theorem dX0_dropOldest_9 : decode cX0_dropOldest 9 = .ok (.iload_n 2, 1) := by decide +kernel
theorem dX0_dropOldest_10 : decode cX0_dropOldest 10 = .ok (.bipush 8, 2) := by decide +kernel
theorem dX0_dropOldest_12 : decode cX0_dropOldest 12 = .ok (.if_icmp .ge 23, 3) := by decide +kernel
theorem dX0_dropOldest_15 : decode cX0_dropOldest 15 = .ok (.aload_n 0, 1) := by decide +kernel
theorem dX0_dropOldest_16 : decode cX0_dropOldest 16 = .ok (.getfield 11, 3) := by decide +kernel
theorem dX0_dropOldest_19 : decode cX0_dropOldest 19 = .ok (.iload_n 2, 1) := by decide +kernel
theorem dX0_dropOldest_20 : decode cX0_dropOldest 20 = .ok (.iconst 1, 1) := by decide +kernel
theorem dX0_dropOldest_21 : decode cX0_dropOldest 21 = .ok (.isub, 1) := by decide +kernel
theorem dX0_dropOldest_22 : decode cX0_dropOldest 22 = .ok (.aload_n 0, 1) := by decide +kernel
theorem dX0_dropOldest_23 : decode cX0_dropOldest 23 = .ok (.getfield 11, 3) := by decide +kernel
theorem dX0_dropOldest_26 : decode cX0_dropOldest 26 = .ok (.iload_n 2, 1) := by decide +kernel
theorem dX0_dropOldest_27 : decode cX0_dropOldest 27 = .ok (.aaload, 1) := by decide +kernel
theorem dX0_dropOldest_28 : decode cX0_dropOldest 28 = .ok (.aastore, 1) := by decide +kernel
theorem dX0_dropOldest_29 : decode cX0_dropOldest 29 = .ok (.iinc 2 1, 3) := by decide +kernel
theorem dX0_dropOldest_32 : decode cX0_dropOldest 32 = .ok (.goto (-23), 3) := by decide +kernel
theorem dX0_dropOldest_35 : decode cX0_dropOldest 35 = .ok (.aload_n 0, 1) := by decide +kernel
theorem dX0_dropOldest_36 : decode cX0_dropOldest 36 = .ok (.getfield 11, 3) := by decide +kernel
theorem dX0_dropOldest_39 : decode cX0_dropOldest 39 = .ok (.bipush 7, 2) := by decide +kernel
theorem dX0_dropOldest_41 : decode cX0_dropOldest 41 = .ok (.aload_n 1, 1) := by decide +kernel
theorem dX0_dropOldest_42 : decode cX0_dropOldest 42 = .ok (.aastore, 1) := by decide +kernel
theorem dX0_dropOldest_43 : decode cX0_dropOldest 43 = .ok (.aload_n 0, 1) := by decide +kernel
theorem dX0_dropOldest_44 : decode cX0_dropOldest 44 = .ok (.bipush 7, 2) := by decide +kernel
theorem dX0_dropOldest_46 : decode cX0_dropOldest 46 = .ok (.putfield 18, 3) := by decide +kernel
theorem dX0_dropOldest_49 : decode cX0_dropOldest 49 = .ok (.return_, 1) := by decide +kernel
theorem dX0_giveBack_0 : decode cX0_giveBack 0 = .ok (.aload_n 0, 1) := by decide +kernel
theorem dX0_giveBack_1 : decode cX0_giveBack 1 = .ok (.getfield 18, 3) := by decide +kernel
theorem dX0_giveBack_4 : decode cX0_giveBack 4 = .ok (.ifCond .gt 5, 3) := by decide +kernel
theorem dX0_giveBack_7 : decode cX0_giveBack 7 = .ok (.iconst 0, 1) := by decide +kernel
theorem dX0_giveBack_8 : decode cX0_giveBack 8 = .ok (.ireturn, 1) := by decide +kernel
theorem dX0_giveBack_9 : decode cX0_giveBack 9 = .ok (.aload_n 0, 1) := by decide +kernel
theorem dX0_giveBack_10 : decode cX0_giveBack 10 = .ok (.dup, 1) := by decide +kernel
theorem dX0_giveBack_11 : decode cX0_giveBack 11 = .ok (.getfield 18, 3) := by decide +kernel
theorem dX0_giveBack_14 : decode cX0_giveBack 14 = .ok (.iconst 1, 1) := by decide +kernel
theorem dX0_giveBack_15 : decode cX0_giveBack 15 = .ok (.isub, 1) := by decide +kernel
theorem dX0_giveBack_16 : decode cX0_giveBack 16 = .ok (.putfield 18, 3) := by decide +kernel
theorem dX0_giveBack_19 : decode cX0_giveBack 19 = .ok (.aload_n 1, 1) := by decide +kernel
theorem dX0_giveBack_20 : decode cX0_giveBack 20 = .ok (.aload_n 0, 1) := by decide +kernel
theorem dX0_giveBack_21 : decode cX0_giveBack 21 = .ok (.getfield 11, 3) := by decide +kernel
theorem dX0_giveBack_24 : decode cX0_giveBack 24 = .ok (.aload_n 0, 1) := by decide +kernel
theorem dX0_giveBack_25 : decode cX0_giveBack 25 = .ok (.getfield 18, 3) := by decide +kernel
theorem dX0_giveBack_28 : decode cX0_giveBack 28 = .ok (.aaload, 1) := by decide +kernel
theorem dX0_giveBack_29 : decode cX0_giveBack 29 = .ok (.invokevirtual 25, 3) := by decide +kernel
theorem dX0_giveBack_32 : decode cX0_giveBack 32 = .ok (.iconst 1, 1) := by decide +kernel
theorem dX0_giveBack_33 : decode cX0_giveBack 33 = .ok (.ireturn, 1) := by decide +kernel
theorem dX1_init_0 : decode cX1_init 0 = .ok (.aload_n 0, 1) := by decide +kernel
theorem dX1_init_1 : decode cX1_init 1 = .ok (.invokespecial 3, 3) := by decide +kernel
theorem dX1_init_4 : decode cX1_init 4 = .ok (.aload_n 0, 1) := by decide +kernel
theorem dX1_init_5 : decode cX1_init 5 = .ok (.bipush 10, 2) := by decide +kernel
theorem dX1_init_7 : decode cX1_init 7 = .ok (.putfield 9, 3) := by decide +kernel
theorem dX1_init_10 : decode cX1_init 10 = .ok (.aload_n 0, 1) := by decide +kernel
theorem dX1_init_11 : decode cX1_init 11 = .ok (.iconst 2, 1) := by decide +kernel
theorem dX1_init_12 : decode cX1_init 12 = .ok (.putfield 15, 3) := by decide +kernel
theorem dX1_init_15 : decode cX1_init 15 = .ok (.aload_n 0, 1) := by decide +kernel
theorem dX1_init_16 : decode cX1_init 16 = .ok (.bipush 6, 2) := by decide +kernel
theorem dX1_init_18 : decode cX1_init 18 = .ok (.newarray .int, 2) := by decide +kernel
theorem dX1_init_20 : decode cX1_init 20 = .ok (.putfield 18, 3) := by decide +kernel
theorem dX1_init_23 : decode cX1_init 23 = .ok (.aload_n 0, 1) := by decide +kernel
theorem dX1_init_24 : decode cX1_init 24 = .ok (.bipush 6, 2) := by decide +kernel
theorem dX1_init_26 : decode cX1_init 26 = .ok (.newarray .int, 2) := by decide +kernel
theorem dX1_init_28 : decode cX1_init 28 = .ok (.putfield 22, 3) := by decide +kernel
theorem dX1_init_31 : decode cX1_init 31 = .ok (.aload_n 0, 1) := by decide +kernel
theorem dX1_init_32 : decode cX1_init 32 = .ok (.bipush 8, 2) := by decide +kernel
theorem dX1_init_34 : decode cX1_init 34 = .ok (.newarray .int, 2) := by decide +kernel
theorem dX1_init_36 : decode cX1_init 36 = .ok (.putfield 25, 3) := by decide +kernel
theorem dX1_init_39 : decode cX1_init 39 = .ok (.aload_n 0, 1) := by decide +kernel
theorem dX1_init_40 : decode cX1_init 40 = .ok (.bipush 8, 2) := by decide +kernel
theorem dX1_init_42 : decode cX1_init 42 = .ok (.newarray .int, 2) := by decide +kernel
theorem dX1_init_44 : decode cX1_init 44 = .ok (.putfield 28, 3) := by decide +kernel
theorem dX1_init_47 : decode cX1_init 47 = .ok (.aload_n 0, 1) := by decide +kernel
theorem dX1_init_48 : decode cX1_init 48 = .ok (.bipush 8, 2) := by decide +kernel
theorem dX1_init_50 : decode cX1_init 50 = .ok (.newarray .int, 2) := by decide +kernel
theorem dX1_init_52 : decode cX1_init 52 = .ok (.putfield 31, 3) := by decide +kernel
theorem dX1_init_55 : decode cX1_init 55 = .ok (.aload_n 0, 1) := by decide +kernel
theorem dX1_init_56 : decode cX1_init 56 = .ok (.bipush 8, 2) := by decide +kernel
theorem dX1_init_58 : decode cX1_init 58 = .ok (.newarray .int, 2) := by decide +kernel
theorem dX1_init_60 : decode cX1_init 60 = .ok (.putfield 34, 3) := by decide +kernel
theorem dX1_init_63 : decode cX1_init 63 = .ok (.aload_n 0, 1) := by decide +kernel
theorem dX1_init_64 : decode cX1_init 64 = .ok (.bipush 8, 2) := by decide +kernel
theorem dX1_init_66 : decode cX1_init 66 = .ok (.newarray .int, 2) := by decide +kernel
theorem dX1_init_68 : decode cX1_init 68 = .ok (.putfield 37, 3) := by decide +kernel
theorem dX1_init_71 : decode cX1_init 71 = .ok (.aload_n 0, 1) := by decide +kernel
theorem dX1_init_72 : decode cX1_init 72 = .ok (.bipush 8, 2) := by decide +kernel
theorem dX1_init_74 : decode cX1_init 74 = .ok (.newarray .int, 2) := by decide +kernel
theorem dX1_init_76 : decode cX1_init 76 = .ok (.putfield 40, 3) := by decide +kernel
theorem dX1_init_79 : decode cX1_init 79 = .ok (.aload_n 0, 1) := by decide +kernel
theorem dX1_init_80 : decode cX1_init 80 = .ok (.bipush 8, 2) := by decide +kernel
theorem dX1_init_82 : decode cX1_init 82 = .ok (.newarray .int, 2) := by decide +kernel
theorem dX1_init_84 : decode cX1_init 84 = .ok (.putfield 43, 3) := by decide +kernel
theorem dX1_init_87 : decode cX1_init 87 = .ok (.aload_n 0, 1) := by decide +kernel
theorem dX1_init_88 : decode cX1_init 88 = .ok (.bipush 40, 2) := by decide +kernel
theorem dX1_init_90 : decode cX1_init 90 = .ok (.newarray .int, 2) := by decide +kernel
theorem dX1_init_92 : decode cX1_init 92 = .ok (.putfield 46, 3) := by decide +kernel
theorem dX1_init_95 : decode cX1_init 95 = .ok (.aload_n 0, 1) := by decide +kernel
theorem dX1_init_96 : decode cX1_init 96 = .ok (.bipush 40, 2) := by decide +kernel
theorem dX1_init_98 : decode cX1_init 98 = .ok (.newarray .int, 2) := by decide +kernel
theorem dX1_init_100 : decode cX1_init 100 = .ok (.putfield 49, 3) := by decide +kernel
theorem dX1_init_103 : decode cX1_init 103 = .ok (.return_, 1) := by decide +kernel
theorem dX1_wayBetween_0 : decode cX1_wayBetween 0 = .ok (.iload_n 0, 1) := by decide +kernel
theorem dX1_wayBetween_1 : decode cX1_wayBetween 1 = .ok (.iload_n 1, 1) := by decide +kernel
theorem dX1_wayBetween_2 : decode cX1_wayBetween 2 = .ok (.if_icmp .ge 9, 3) := by decide +kernel
theorem dX1_wayBetween_5 : decode cX1_wayBetween 5 = .ok (.iload_n 1, 1) := by decide +kernel
theorem dX1_wayBetween_6 : decode cX1_wayBetween 6 = .ok (.iload_n 0, 1) := by decide +kernel
theorem dX1_wayBetween_7 : decode cX1_wayBetween 7 = .ok (.isub, 1) := by decide +kernel
theorem dX1_wayBetween_8 : decode cX1_wayBetween 8 = .ok (.goto 6, 3) := by decide +kernel
theorem dX1_wayBetween_11 : decode cX1_wayBetween 11 = .ok (.iload_n 0, 1) := by decide +kernel
theorem dX1_wayBetween_12 : decode cX1_wayBetween 12 = .ok (.iload_n 1, 1) := by decide +kernel
theorem dX1_wayBetween_13 : decode cX1_wayBetween 13 = .ok (.isub, 1) := by decide +kernel
theorem dX1_wayBetween_14 : decode cX1_wayBetween 14 = .ok (.istore_n 2, 1) := by decide +kernel
theorem dX1_wayBetween_15 : decode cX1_wayBetween 15 = .ok (.iload_n 2, 1) := by decide +kernel
theorem dX1_wayBetween_16 : decode cX1_wayBetween 16 = .ok (.bipush 9, 2) := by decide +kernel
theorem dX1_wayBetween_18 : decode cX1_wayBetween 18 = .ok (.iadd, 1) := by decide +kernel
theorem dX1_wayBetween_19 : decode cX1_wayBetween 19 = .ok (.bipush 10, 2) := by decide +kernel
theorem dX1_wayBetween_21 : decode cX1_wayBetween 21 = .ok (.idiv, 1) := by decide +kernel
theorem dX1_wayBetween_22 : decode cX1_wayBetween 22 = .ok (.ireturn, 1) := by decide +kernel
theorem dX1_clear_0 : decode cX1_clear 0 = .ok (.aload_n 0, 1) := by decide +kernel
theorem dX1_clear_1 : decode cX1_clear 1 = .ok (.iconst 0, 1) := by decide +kernel
theorem dX1_clear_2 : decode cX1_clear 2 = .ok (.putfield 52, 3) := by decide +kernel
theorem dX1_clear_5 : decode cX1_clear 5 = .ok (.aload_n 0, 1) := by decide +kernel
theorem dX1_clear_6 : decode cX1_clear 6 = .ok (.iconst 0, 1) := by decide +kernel
theorem dX1_clear_7 : decode cX1_clear 7 = .ok (.putfield 55, 3) := by decide +kernel
theorem dX1_clear_10 : decode cX1_clear 10 = .ok (.aload_n 0, 1) := by decide +kernel
theorem dX1_clear_11 : decode cX1_clear 11 = .ok (.iconst 0, 1) := by decide +kernel
theorem dX1_clear_12 : decode cX1_clear 12 = .ok (.putfield 58, 3) := by decide +kernel
theorem dX1_clear_15 : decode cX1_clear 15 = .ok (.aload_n 0, 1) := by decide +kernel
theorem dX1_clear_16 : decode cX1_clear 16 = .ok (.bipush 10, 2) := by decide +kernel
theorem dX1_clear_18 : decode cX1_clear 18 = .ok (.putfield 9, 3) := by decide +kernel
theorem dX1_clear_21 : decode cX1_clear 21 = .ok (.aload_n 0, 1) := by decide +kernel
theorem dX1_clear_22 : decode cX1_clear 22 = .ok (.iconst 2, 1) := by decide +kernel
theorem dX1_clear_23 : decode cX1_clear 23 = .ok (.putfield 15, 3) := by decide +kernel
theorem dX1_clear_26 : decode cX1_clear 26 = .ok (.return_, 1) := by decide +kernel
theorem dX1_hasDoor_0 : decode cX1_hasDoor 0 = .ok (.iload_n 1, 1) := by decide +kernel
theorem dX1_hasDoor_1 : decode cX1_hasDoor 1 = .ok (.ifCond .lt 15, 3) := by decide +kernel
theorem dX1_hasDoor_4 : decode cX1_hasDoor 4 = .ok (.iload_n 1, 1) := by decide +kernel
theorem dX1_hasDoor_5 : decode cX1_hasDoor 5 = .ok (.aload_n 0, 1) := by decide +kernel
theorem dX1_hasDoor_6 : decode cX1_hasDoor 6 = .ok (.getfield 52, 3) := by decide +kernel
theorem dX1_hasDoor_9 : decode cX1_hasDoor 9 = .ok (.if_icmp .ge 7, 3) := by decide +kernel
theorem dX1_hasDoor_12 : decode cX1_hasDoor 12 = .ok (.iconst 1, 1) := by decide +kernel
theorem dX1_hasDoor_13 : decode cX1_hasDoor 13 = .ok (.goto 4, 3) := by decide +kernel
theorem dX1_hasDoor_16 : decode cX1_hasDoor 16 = .ok (.iconst 0, 1) := by decide +kernel
theorem dX1_hasDoor_17 : decode cX1_hasDoor 17 = .ok (.ireturn, 1) := by decide +kernel
theorem dX1_hasTruck_0 : decode cX1_hasTruck 0 = .ok (.iload_n 1, 1) := by decide +kernel
theorem dX1_hasTruck_1 : decode cX1_hasTruck 1 = .ok (.ifCond .lt 15, 3) := by decide +kernel
theorem dX1_hasTruck_4 : decode cX1_hasTruck 4 = .ok (.iload_n 1, 1) := by decide +kernel
theorem dX1_hasTruck_5 : decode cX1_hasTruck 5 = .ok (.aload_n 0, 1) := by decide +kernel
theorem dX1_hasTruck_6 : decode cX1_hasTruck 6 = .ok (.getfield 55, 3) := by decide +kernel
theorem dX1_hasTruck_9 : decode cX1_hasTruck 9 = .ok (.if_icmp .ge 7, 3) := by decide +kernel
theorem dX1_hasTruck_12 : decode cX1_hasTruck 12 = .ok (.iconst 1, 1) := by decide +kernel
theorem dX1_hasTruck_13 : decode cX1_hasTruck 13 = .ok (.goto 4, 3) := by decide +kernel
theorem dX1_hasTruck_16 : decode cX1_hasTruck 16 = .ok (.iconst 0, 1) := by decide +kernel
theorem dX1_hasTruck_17 : decode cX1_hasTruck 17 = .ok (.ireturn, 1) := by decide +kernel
theorem dX1_hasCarton_0 : decode cX1_hasCarton 0 = .ok (.iload_n 1, 1) := by decide +kernel
theorem dX1_hasCarton_1 : decode cX1_hasCarton 1 = .ok (.ifCond .lt 15, 3) := by decide +kernel
theorem dX1_hasCarton_4 : decode cX1_hasCarton 4 = .ok (.iload_n 1, 1) := by decide +kernel
theorem dX1_hasCarton_5 : decode cX1_hasCarton 5 = .ok (.aload_n 0, 1) := by decide +kernel
theorem dX1_hasCarton_6 : decode cX1_hasCarton 6 = .ok (.getfield 58, 3) := by decide +kernel
theorem dX1_hasCarton_9 : decode cX1_hasCarton 9 = .ok (.if_icmp .ge 7, 3) := by decide +kernel
theorem dX1_hasCarton_12 : decode cX1_hasCarton 12 = .ok (.iconst 1, 1) := by decide +kernel
theorem dX1_hasCarton_13 : decode cX1_hasCarton 13 = .ok (.goto 4, 3) := by decide +kernel
theorem dX1_hasCarton_16 : decode cX1_hasCarton 16 = .ok (.iconst 0, 1) := by decide +kernel
theorem dX1_hasCarton_17 : decode cX1_hasCarton 17 = .ok (.ireturn, 1) := by decide +kernel
theorem dX1_loadFor_0 : decode cX1_loadFor 0 = .ok (.iconst 0, 1) := by decide +kernel
theorem dX1_loadFor_1 : decode cX1_loadFor 1 = .ok (.istore_n 3, 1) := by decide +kernel
theorem dX1_loadFor_2 : decode cX1_loadFor 2 = .ok (.iconst 0, 1) := by decide +kernel
theorem dX1_loadFor_3 : decode cX1_loadFor 3 = .ok (.istore 4, 2) := by decide +kernel
theorem dX1_loadFor_5 : decode cX1_loadFor 5 = .ok (.iload 4, 2) := by decide +kernel
theorem dX1_loadFor_7 : decode cX1_loadFor 7 = .ok (.aload_n 0, 1) := by decide +kernel
theorem dX1_loadFor_8 : decode cX1_loadFor 8 = .ok (.getfield 58, 3) := by decide +kernel
theorem dX1_loadFor_11 : decode cX1_loadFor 11 = .ok (.if_icmp .ge 34, 3) := by decide +kernel
theorem dX1_loadFor_14 : decode cX1_loadFor 14 = .ok (.aload_n 0, 1) := by decide +kernel
theorem dX1_loadFor_15 : decode cX1_loadFor 15 = .ok (.getfield 46, 3) := by decide +kernel
theorem dX1_loadFor_18 : decode cX1_loadFor 18 = .ok (.iload 4, 2) := by decide +kernel
theorem dX1_loadFor_20 : decode cX1_loadFor 20 = .ok (.iaload, 1) := by decide +kernel
theorem dX1_loadFor_21 : decode cX1_loadFor 21 = .ok (.iload_n 1, 1) := by decide +kernel
theorem dX1_loadFor_22 : decode cX1_loadFor 22 = .ok (.if_icmp .ne 17, 3) := by decide +kernel
theorem dX1_loadFor_25 : decode cX1_loadFor 25 = .ok (.aload_n 0, 1) := by decide +kernel
theorem dX1_loadFor_26 : decode cX1_loadFor 26 = .ok (.getfield 49, 3) := by decide +kernel
theorem dX1_loadFor_29 : decode cX1_loadFor 29 = .ok (.iload 4, 2) := by decide +kernel
theorem dX1_loadFor_31 : decode cX1_loadFor 31 = .ok (.iaload, 1) := by decide +kernel
theorem dX1_loadFor_32 : decode cX1_loadFor 32 = .ok (.iload_n 2, 1) := by decide +kernel
theorem dX1_loadFor_33 : decode cX1_loadFor 33 = .ok (.if_icmp .ne 6, 3) := by decide +kernel
theorem dX1_loadFor_36 : decode cX1_loadFor 36 = .ok (.iinc 3 1, 3) := by decide +kernel
theorem dX1_loadFor_39 : decode cX1_loadFor 39 = .ok (.iinc 4 1, 3) := by decide +kernel
theorem dX1_loadFor_42 : decode cX1_loadFor 42 = .ok (.goto (-37), 3) := by decide +kernel
theorem dX1_loadFor_45 : decode cX1_loadFor 45 = .ok (.iload_n 3, 1) := by decide +kernel
theorem dX1_loadFor_46 : decode cX1_loadFor 46 = .ok (.ireturn, 1) := by decide +kernel
theorem dX1_addDoor_0 : decode cX1_addDoor 0 = .ok (.aload_n 0, 1) := by decide +kernel
theorem dX1_addDoor_1 : decode cX1_addDoor 1 = .ok (.getfield 52, 3) := by decide +kernel
theorem dX1_addDoor_4 : decode cX1_addDoor 4 = .ok (.bipush 6, 2) := by decide +kernel
theorem dX1_addDoor_6 : decode cX1_addDoor 6 = .ok (.if_icmp .lt 4, 3) := by decide +kernel
theorem dX1_addDoor_9 : decode cX1_addDoor 9 = .ok (.return_, 1) := by decide +kernel
theorem dX1_addDoor_10 : decode cX1_addDoor 10 = .ok (.aload_n 0, 1) := by decide +kernel
theorem dX1_addDoor_11 : decode cX1_addDoor 11 = .ok (.getfield 18, 3) := by decide +kernel
theorem dX1_addDoor_14 : decode cX1_addDoor 14 = .ok (.aload_n 0, 1) := by decide +kernel
theorem dX1_addDoor_15 : decode cX1_addDoor 15 = .ok (.getfield 52, 3) := by decide +kernel
theorem dX1_addDoor_18 : decode cX1_addDoor 18 = .ok (.iload_n 1, 1) := by decide +kernel
theorem dX1_addDoor_19 : decode cX1_addDoor 19 = .ok (.iastore, 1) := by decide +kernel
theorem dX1_addDoor_20 : decode cX1_addDoor 20 = .ok (.aload_n 0, 1) := by decide +kernel
theorem dX1_addDoor_21 : decode cX1_addDoor 21 = .ok (.getfield 22, 3) := by decide +kernel
theorem dX1_addDoor_24 : decode cX1_addDoor 24 = .ok (.aload_n 0, 1) := by decide +kernel
theorem dX1_addDoor_25 : decode cX1_addDoor 25 = .ok (.getfield 52, 3) := by decide +kernel
theorem dX1_addDoor_28 : decode cX1_addDoor 28 = .ok (.iload_n 2, 1) := by decide +kernel
theorem dX1_addDoor_29 : decode cX1_addDoor 29 = .ok (.iastore, 1) := by decide +kernel
theorem dX1_addDoor_30 : decode cX1_addDoor 30 = .ok (.aload_n 0, 1) := by decide +kernel
theorem dX1_addDoor_31 : decode cX1_addDoor 31 = .ok (.dup, 1) := by decide +kernel
theorem dX1_addDoor_32 : decode cX1_addDoor 32 = .ok (.getfield 52, 3) := by decide +kernel
theorem dX1_addDoor_35 : decode cX1_addDoor 35 = .ok (.iconst 1, 1) := by decide +kernel
theorem dX1_addDoor_36 : decode cX1_addDoor 36 = .ok (.iadd, 1) := by decide +kernel
theorem dX1_addDoor_37 : decode cX1_addDoor 37 = .ok (.putfield 52, 3) := by decide +kernel
theorem dX1_addDoor_40 : decode cX1_addDoor 40 = .ok (.return_, 1) := by decide +kernel
theorem dX1_addBringer_0 : decode cX1_addBringer 0 = .ok (.aload_n 0, 1) := by decide +kernel
theorem dX1_addBringer_1 : decode cX1_addBringer 1 = .ok (.getfield 55, 3) := by decide +kernel
theorem dX1_addBringer_4 : decode cX1_addBringer 4 = .ok (.bipush 8, 2) := by decide +kernel
theorem dX1_addBringer_6 : decode cX1_addBringer 6 = .ok (.if_icmp .lt 4, 3) := by decide +kernel
theorem dX1_addBringer_9 : decode cX1_addBringer 9 = .ok (.return_, 1) := by decide +kernel
theorem dX1_addBringer_10 : decode cX1_addBringer 10 = .ok (.aload_n 0, 1) := by decide +kernel
theorem dX1_addBringer_11 : decode cX1_addBringer 11 = .ok (.getfield 25, 3) := by decide +kernel
theorem dX1_addBringer_14 : decode cX1_addBringer 14 = .ok (.aload_n 0, 1) := by decide +kernel
theorem dX1_addBringer_15 : decode cX1_addBringer 15 = .ok (.getfield 55, 3) := by decide +kernel
theorem dX1_addBringer_18 : decode cX1_addBringer 18 = .ok (.iconst 0, 1) := by decide +kernel
theorem dX1_addBringer_19 : decode cX1_addBringer 19 = .ok (.iastore, 1) := by decide +kernel
theorem dX1_addBringer_20 : decode cX1_addBringer 20 = .ok (.aload_n 0, 1) := by decide +kernel
theorem dX1_addBringer_21 : decode cX1_addBringer 21 = .ok (.getfield 28, 3) := by decide +kernel
theorem dX1_addBringer_24 : decode cX1_addBringer 24 = .ok (.aload_n 0, 1) := by decide +kernel
theorem dX1_addBringer_25 : decode cX1_addBringer 25 = .ok (.getfield 55, 3) := by decide +kernel
theorem dX1_addBringer_28 : decode cX1_addBringer 28 = .ok (.iload_n 1, 1) := by decide +kernel
theorem dX1_addBringer_29 : decode cX1_addBringer 29 = .ok (.iastore, 1) := by decide +kernel
theorem dX1_addBringer_30 : decode cX1_addBringer 30 = .ok (.aload_n 0, 1) := by decide +kernel
theorem dX1_addBringer_31 : decode cX1_addBringer 31 = .ok (.getfield 31, 3) := by decide +kernel
theorem dX1_addBringer_34 : decode cX1_addBringer 34 = .ok (.aload_n 0, 1) := by decide +kernel
theorem dX1_addBringer_35 : decode cX1_addBringer 35 = .ok (.getfield 55, 3) := by decide +kernel
theorem dX1_addBringer_38 : decode cX1_addBringer 38 = .ok (.iconst (-1), 1) := by decide +kernel
theorem dX1_addBringer_39 : decode cX1_addBringer 39 = .ok (.iastore, 1) := by decide +kernel
theorem dX1_addBringer_40 : decode cX1_addBringer 40 = .ok (.aload_n 0, 1) := by decide +kernel
theorem dX1_addBringer_41 : decode cX1_addBringer 41 = .ok (.getfield 34, 3) := by decide +kernel
theorem dX1_addBringer_44 : decode cX1_addBringer 44 = .ok (.aload_n 0, 1) := by decide +kernel
theorem dX1_addBringer_45 : decode cX1_addBringer 45 = .ok (.getfield 55, 3) := by decide +kernel
theorem dX1_addBringer_48 : decode cX1_addBringer 48 = .ok (.iconst (-1), 1) := by decide +kernel
theorem dX1_addBringer_49 : decode cX1_addBringer 49 = .ok (.iastore, 1) := by decide +kernel
theorem dX1_addBringer_50 : decode cX1_addBringer 50 = .ok (.aload_n 0, 1) := by decide +kernel
theorem dX1_addBringer_51 : decode cX1_addBringer 51 = .ok (.getfield 37, 3) := by decide +kernel
theorem dX1_addBringer_54 : decode cX1_addBringer 54 = .ok (.aload_n 0, 1) := by decide +kernel
theorem dX1_addBringer_55 : decode cX1_addBringer 55 = .ok (.getfield 55, 3) := by decide +kernel
theorem dX1_addBringer_58 : decode cX1_addBringer 58 = .ok (.iconst 0, 1) := by decide +kernel
theorem dX1_addBringer_59 : decode cX1_addBringer 59 = .ok (.iastore, 1) := by decide +kernel
theorem dX1_addBringer_60 : decode cX1_addBringer 60 = .ok (.aload_n 0, 1) := by decide +kernel
theorem dX1_addBringer_61 : decode cX1_addBringer 61 = .ok (.getfield 40, 3) := by decide +kernel
theorem dX1_addBringer_64 : decode cX1_addBringer 64 = .ok (.aload_n 0, 1) := by decide +kernel
theorem dX1_addBringer_65 : decode cX1_addBringer 65 = .ok (.getfield 55, 3) := by decide +kernel
theorem dX1_addBringer_68 : decode cX1_addBringer 68 = .ok (.iconst (-1), 1) := by decide +kernel
theorem dX1_addBringer_69 : decode cX1_addBringer 69 = .ok (.iastore, 1) := by decide +kernel
theorem dX1_addBringer_70 : decode cX1_addBringer 70 = .ok (.aload_n 0, 1) := by decide +kernel
theorem dX1_addBringer_71 : decode cX1_addBringer 71 = .ok (.getfield 43, 3) := by decide +kernel
theorem dX1_addBringer_74 : decode cX1_addBringer 74 = .ok (.aload_n 0, 1) := by decide +kernel
theorem dX1_addBringer_75 : decode cX1_addBringer 75 = .ok (.getfield 55, 3) := by decide +kernel
theorem dX1_addBringer_78 : decode cX1_addBringer 78 = .ok (.aload_n 0, 1) := by decide +kernel
theorem dX1_addBringer_79 : decode cX1_addBringer 79 = .ok (.getfield 58, 3) := by decide +kernel
theorem dX1_addBringer_82 : decode cX1_addBringer 82 = .ok (.iastore, 1) := by decide +kernel
theorem dX1_addBringer_83 : decode cX1_addBringer 83 = .ok (.aload_n 0, 1) := by decide +kernel
theorem dX1_addBringer_84 : decode cX1_addBringer 84 = .ok (.dup, 1) := by decide +kernel
theorem dX1_addBringer_85 : decode cX1_addBringer 85 = .ok (.getfield 55, 3) := by decide +kernel
theorem dX1_addBringer_88 : decode cX1_addBringer 88 = .ok (.iconst 1, 1) := by decide +kernel
theorem dX1_addBringer_89 : decode cX1_addBringer 89 = .ok (.iadd, 1) := by decide +kernel
theorem dX1_addBringer_90 : decode cX1_addBringer 90 = .ok (.putfield 55, 3) := by decide +kernel
theorem dX1_addBringer_93 : decode cX1_addBringer 93 = .ok (.return_, 1) := by decide +kernel
theorem dX1_addCartonToLatest_0 : decode cX1_addCartonToLatest 0 = .ok (.aload_n 0, 1) := by decide +kernel
theorem dX1_addCartonToLatest_1 : decode cX1_addCartonToLatest 1 = .ok (.getfield 55, 3) := by decide +kernel
theorem dX1_addCartonToLatest_4 : decode cX1_addCartonToLatest 4 = .ok (.iconst 1, 1) := by decide +kernel
theorem dX1_addCartonToLatest_5 : decode cX1_addCartonToLatest 5 = .ok (.if_icmp .lt 12, 3) := by decide +kernel
theorem dX1_addCartonToLatest_8 : decode cX1_addCartonToLatest 8 = .ok (.aload_n 0, 1) := by decide +kernel
theorem dX1_addCartonToLatest_9 : decode cX1_addCartonToLatest 9 = .ok (.getfield 58, 3) := by decide +kernel
theorem dX1_addCartonToLatest_12 : decode cX1_addCartonToLatest 12 = .ok (.bipush 40, 2) := by decide +kernel
theorem dX1_addCartonToLatest_14 : decode cX1_addCartonToLatest 14 = .ok (.if_icmp .lt 4, 3) := by decide +kernel
theorem dX1_addCartonToLatest_17 : decode cX1_addCartonToLatest 17 = .ok (.return_, 1) := by decide +kernel
theorem dX1_addCartonToLatest_18 : decode cX1_addCartonToLatest 18 = .ok (.aload_n 0, 1) := by decide +kernel
theorem dX1_addCartonToLatest_19 : decode cX1_addCartonToLatest 19 = .ok (.getfield 46, 3) := by decide +kernel
theorem dX1_addCartonToLatest_22 : decode cX1_addCartonToLatest 22 = .ok (.aload_n 0, 1) := by decide +kernel
theorem dX1_addCartonToLatest_23 : decode cX1_addCartonToLatest 23 = .ok (.getfield 58, 3) := by decide +kernel
theorem dX1_addCartonToLatest_26 : decode cX1_addCartonToLatest 26 = .ok (.aload_n 0, 1) := by decide +kernel
theorem dX1_addCartonToLatest_27 : decode cX1_addCartonToLatest 27 = .ok (.getfield 55, 3) := by decide +kernel
theorem dX1_addCartonToLatest_30 : decode cX1_addCartonToLatest 30 = .ok (.iconst 1, 1) := by decide +kernel
theorem dX1_addCartonToLatest_31 : decode cX1_addCartonToLatest 31 = .ok (.isub, 1) := by decide +kernel
theorem dX1_addCartonToLatest_32 : decode cX1_addCartonToLatest 32 = .ok (.iastore, 1) := by decide +kernel
theorem dX1_addCartonToLatest_33 : decode cX1_addCartonToLatest 33 = .ok (.aload_n 0, 1) := by decide +kernel
theorem dX1_addCartonToLatest_34 : decode cX1_addCartonToLatest 34 = .ok (.getfield 49, 3) := by decide +kernel
theorem dX1_addCartonToLatest_37 : decode cX1_addCartonToLatest 37 = .ok (.aload_n 0, 1) := by decide +kernel
theorem dX1_addCartonToLatest_38 : decode cX1_addCartonToLatest 38 = .ok (.getfield 58, 3) := by decide +kernel
theorem dX1_addCartonToLatest_41 : decode cX1_addCartonToLatest 41 = .ok (.iload_n 1, 1) := by decide +kernel
theorem dX1_addCartonToLatest_42 : decode cX1_addCartonToLatest 42 = .ok (.iastore, 1) := by decide +kernel
theorem dX1_addCartonToLatest_43 : decode cX1_addCartonToLatest 43 = .ok (.aload_n 0, 1) := by decide +kernel
theorem dX1_addCartonToLatest_44 : decode cX1_addCartonToLatest 44 = .ok (.getfield 37, 3) := by decide +kernel
theorem dX1_addCartonToLatest_47 : decode cX1_addCartonToLatest 47 = .ok (.aload_n 0, 1) := by decide +kernel
theorem dX1_addCartonToLatest_48 : decode cX1_addCartonToLatest 48 = .ok (.getfield 55, 3) := by decide +kernel
theorem dX1_addCartonToLatest_51 : decode cX1_addCartonToLatest 51 = .ok (.iconst 1, 1) := by decide +kernel
theorem dX1_addCartonToLatest_52 : decode cX1_addCartonToLatest 52 = .ok (.isub, 1) := by decide +kernel
theorem dX1_addCartonToLatest_53 : decode cX1_addCartonToLatest 53 = .ok (.dup2, 1) := by decide +kernel
theorem dX1_addCartonToLatest_54 : decode cX1_addCartonToLatest 54 = .ok (.iaload, 1) := by decide +kernel
theorem dX1_addCartonToLatest_55 : decode cX1_addCartonToLatest 55 = .ok (.iconst 1, 1) := by decide +kernel
theorem dX1_addCartonToLatest_56 : decode cX1_addCartonToLatest 56 = .ok (.iadd, 1) := by decide +kernel
theorem dX1_addCartonToLatest_57 : decode cX1_addCartonToLatest 57 = .ok (.iastore, 1) := by decide +kernel
theorem dX1_addCartonToLatest_58 : decode cX1_addCartonToLatest 58 = .ok (.aload_n 0, 1) := by decide +kernel
theorem dX1_addCartonToLatest_59 : decode cX1_addCartonToLatest 59 = .ok (.dup, 1) := by decide +kernel
theorem dX1_addCartonToLatest_60 : decode cX1_addCartonToLatest 60 = .ok (.getfield 58, 3) := by decide +kernel
theorem dX1_addCartonToLatest_63 : decode cX1_addCartonToLatest 63 = .ok (.iconst 1, 1) := by decide +kernel
theorem dX1_addCartonToLatest_64 : decode cX1_addCartonToLatest 64 = .ok (.iadd, 1) := by decide +kernel
theorem dX1_addCartonToLatest_65 : decode cX1_addCartonToLatest 65 = .ok (.putfield 58, 3) := by decide +kernel
theorem dX1_addCartonToLatest_68 : decode cX1_addCartonToLatest 68 = .ok (.return_, 1) := by decide +kernel
theorem dX1_addTaker_0 : decode cX1_addTaker 0 = .ok (.aload_n 0, 1) := by decide +kernel
theorem dX1_addTaker_1 : decode cX1_addTaker 1 = .ok (.getfield 55, 3) := by decide +kernel
theorem dX1_addTaker_4 : decode cX1_addTaker 4 = .ok (.bipush 8, 2) := by decide +kernel
theorem dX1_addTaker_6 : decode cX1_addTaker 6 = .ok (.if_icmp .lt 4, 3) := by decide +kernel
theorem dX1_addTaker_9 : decode cX1_addTaker 9 = .ok (.return_, 1) := by decide +kernel
theorem dX1_addTaker_10 : decode cX1_addTaker 10 = .ok (.aload_n 0, 1) := by decide +kernel
theorem dX1_addTaker_11 : decode cX1_addTaker 11 = .ok (.getfield 25, 3) := by decide +kernel
theorem dX1_addTaker_14 : decode cX1_addTaker 14 = .ok (.aload_n 0, 1) := by decide +kernel
theorem dX1_addTaker_15 : decode cX1_addTaker 15 = .ok (.getfield 55, 3) := by decide +kernel
theorem dX1_addTaker_18 : decode cX1_addTaker 18 = .ok (.iconst 1, 1) := by decide +kernel
theorem dX1_addTaker_19 : decode cX1_addTaker 19 = .ok (.iastore, 1) := by decide +kernel
theorem dX1_addTaker_20 : decode cX1_addTaker 20 = .ok (.aload_n 0, 1) := by decide +kernel
theorem dX1_addTaker_21 : decode cX1_addTaker 21 = .ok (.getfield 28, 3) := by decide +kernel
theorem dX1_addTaker_24 : decode cX1_addTaker 24 = .ok (.aload_n 0, 1) := by decide +kernel
theorem dX1_addTaker_25 : decode cX1_addTaker 25 = .ok (.getfield 55, 3) := by decide +kernel
theorem dX1_addTaker_28 : decode cX1_addTaker 28 = .ok (.iload_n 1, 1) := by decide +kernel
theorem dX1_addTaker_29 : decode cX1_addTaker 29 = .ok (.iastore, 1) := by decide +kernel
theorem dX1_addTaker_30 : decode cX1_addTaker 30 = .ok (.aload_n 0, 1) := by decide +kernel
theorem dX1_addTaker_31 : decode cX1_addTaker 31 = .ok (.getfield 31, 3) := by decide +kernel
theorem dX1_addTaker_34 : decode cX1_addTaker 34 = .ok (.aload_n 0, 1) := by decide +kernel
theorem dX1_addTaker_35 : decode cX1_addTaker 35 = .ok (.getfield 55, 3) := by decide +kernel
theorem dX1_addTaker_38 : decode cX1_addTaker 38 = .ok (.iload_n 2, 1) := by decide +kernel
theorem dX1_addTaker_39 : decode cX1_addTaker 39 = .ok (.iastore, 1) := by decide +kernel
theorem dX1_addTaker_40 : decode cX1_addTaker 40 = .ok (.aload_n 0, 1) := by decide +kernel
theorem dX1_addTaker_41 : decode cX1_addTaker 41 = .ok (.getfield 34, 3) := by decide +kernel
theorem dX1_addTaker_44 : decode cX1_addTaker 44 = .ok (.aload_n 0, 1) := by decide +kernel
theorem dX1_addTaker_45 : decode cX1_addTaker 45 = .ok (.getfield 55, 3) := by decide +kernel
theorem dX1_addTaker_48 : decode cX1_addTaker 48 = .ok (.iload_n 3, 1) := by decide +kernel
theorem dX1_addTaker_49 : decode cX1_addTaker 49 = .ok (.iastore, 1) := by decide +kernel
theorem dX1_addTaker_50 : decode cX1_addTaker 50 = .ok (.aload_n 0, 1) := by decide +kernel
theorem dX1_addTaker_51 : decode cX1_addTaker 51 = .ok (.getfield 37, 3) := by decide +kernel
theorem dX1_addTaker_54 : decode cX1_addTaker 54 = .ok (.aload_n 0, 1) := by decide +kernel
theorem dX1_addTaker_55 : decode cX1_addTaker 55 = .ok (.getfield 55, 3) := by decide +kernel
theorem dX1_addTaker_58 : decode cX1_addTaker 58 = .ok (.iload 4, 2) := by decide +kernel
theorem dX1_addTaker_60 : decode cX1_addTaker 60 = .ok (.iastore, 1) := by decide +kernel
theorem dX1_addTaker_61 : decode cX1_addTaker 61 = .ok (.aload_n 0, 1) := by decide +kernel
theorem dX1_addTaker_62 : decode cX1_addTaker 62 = .ok (.getfield 40, 3) := by decide +kernel
theorem dX1_addTaker_65 : decode cX1_addTaker 65 = .ok (.aload_n 0, 1) := by decide +kernel
theorem dX1_addTaker_66 : decode cX1_addTaker 66 = .ok (.getfield 55, 3) := by decide +kernel
theorem dX1_addTaker_69 : decode cX1_addTaker 69 = .ok (.iload 5, 2) := by decide +kernel
theorem dX1_addTaker_71 : decode cX1_addTaker 71 = .ok (.iastore, 1) := by decide +kernel
theorem dX1_addTaker_72 : decode cX1_addTaker 72 = .ok (.aload_n 0, 1) := by decide +kernel
theorem dX1_addTaker_73 : decode cX1_addTaker 73 = .ok (.dup, 1) := by decide +kernel
theorem dX1_addTaker_74 : decode cX1_addTaker 74 = .ok (.getfield 55, 3) := by decide +kernel
theorem dX1_addTaker_77 : decode cX1_addTaker 77 = .ok (.iconst 1, 1) := by decide +kernel
theorem dX1_addTaker_78 : decode cX1_addTaker 78 = .ok (.iadd, 1) := by decide +kernel
theorem dX1_addTaker_79 : decode cX1_addTaker 79 = .ok (.putfield 55, 3) := by decide +kernel
theorem dX1_addTaker_82 : decode cX1_addTaker 82 = .ok (.return_, 1) := by decide +kernel
theorem dX1_copyFrom_0 : decode cX1_copyFrom 0 = .ok (.aload_n 0, 1) := by decide +kernel
theorem dX1_copyFrom_1 : decode cX1_copyFrom 1 = .ok (.aload_n 1, 1) := by decide +kernel
theorem dX1_copyFrom_2 : decode cX1_copyFrom 2 = .ok (.getfield 52, 3) := by decide +kernel
theorem dX1_copyFrom_5 : decode cX1_copyFrom 5 = .ok (.putfield 52, 3) := by decide +kernel
theorem dX1_copyFrom_8 : decode cX1_copyFrom 8 = .ok (.aload_n 0, 1) := by decide +kernel
theorem dX1_copyFrom_9 : decode cX1_copyFrom 9 = .ok (.aload_n 1, 1) := by decide +kernel
theorem dX1_copyFrom_10 : decode cX1_copyFrom 10 = .ok (.getfield 55, 3) := by decide +kernel
theorem dX1_copyFrom_13 : decode cX1_copyFrom 13 = .ok (.putfield 55, 3) := by decide +kernel
theorem dX1_copyFrom_16 : decode cX1_copyFrom 16 = .ok (.aload_n 0, 1) := by decide +kernel
theorem dX1_copyFrom_17 : decode cX1_copyFrom 17 = .ok (.aload_n 1, 1) := by decide +kernel
theorem dX1_copyFrom_18 : decode cX1_copyFrom 18 = .ok (.getfield 58, 3) := by decide +kernel
theorem dX1_copyFrom_21 : decode cX1_copyFrom 21 = .ok (.putfield 58, 3) := by decide +kernel
theorem dX1_copyFrom_24 : decode cX1_copyFrom 24 = .ok (.aload_n 0, 1) := by decide +kernel
theorem dX1_copyFrom_25 : decode cX1_copyFrom 25 = .ok (.aload_n 1, 1) := by decide +kernel
theorem dX1_copyFrom_26 : decode cX1_copyFrom 26 = .ok (.getfield 9, 3) := by decide +kernel
theorem dX1_copyFrom_29 : decode cX1_copyFrom 29 = .ok (.putfield 9, 3) := by decide +kernel
theorem dX1_copyFrom_32 : decode cX1_copyFrom 32 = .ok (.aload_n 0, 1) := by decide +kernel
theorem dX1_copyFrom_33 : decode cX1_copyFrom 33 = .ok (.aload_n 1, 1) := by decide +kernel
theorem dX1_copyFrom_34 : decode cX1_copyFrom 34 = .ok (.getfield 15, 3) := by decide +kernel
theorem dX1_copyFrom_37 : decode cX1_copyFrom 37 = .ok (.putfield 15, 3) := by decide +kernel
theorem dX1_copyFrom_40 : decode cX1_copyFrom 40 = .ok (.aload_n 1, 1) := by decide +kernel
theorem dX1_copyFrom_41 : decode cX1_copyFrom 41 = .ok (.getfield 18, 3) := by decide +kernel
theorem dX1_copyFrom_44 : decode cX1_copyFrom 44 = .ok (.iconst 0, 1) := by decide +kernel
theorem dX1_copyFrom_45 : decode cX1_copyFrom 45 = .ok (.aload_n 0, 1) := by decide +kernel
theorem dX1_copyFrom_46 : decode cX1_copyFrom 46 = .ok (.getfield 18, 3) := by decide +kernel
theorem dX1_copyFrom_49 : decode cX1_copyFrom 49 = .ok (.iconst 0, 1) := by decide +kernel
theorem dX1_copyFrom_50 : decode cX1_copyFrom 50 = .ok (.bipush 6, 2) := by decide +kernel
theorem dX1_copyFrom_52 : decode cX1_copyFrom 52 = .ok (.invokestatic 61, 3) := by decide +kernel
theorem dX1_copyFrom_55 : decode cX1_copyFrom 55 = .ok (.aload_n 1, 1) := by decide +kernel
theorem dX1_copyFrom_56 : decode cX1_copyFrom 56 = .ok (.getfield 22, 3) := by decide +kernel
theorem dX1_copyFrom_59 : decode cX1_copyFrom 59 = .ok (.iconst 0, 1) := by decide +kernel
theorem dX1_copyFrom_60 : decode cX1_copyFrom 60 = .ok (.aload_n 0, 1) := by decide +kernel
theorem dX1_copyFrom_61 : decode cX1_copyFrom 61 = .ok (.getfield 22, 3) := by decide +kernel
theorem dX1_copyFrom_64 : decode cX1_copyFrom 64 = .ok (.iconst 0, 1) := by decide +kernel
theorem dX1_copyFrom_65 : decode cX1_copyFrom 65 = .ok (.bipush 6, 2) := by decide +kernel
theorem dX1_copyFrom_67 : decode cX1_copyFrom 67 = .ok (.invokestatic 61, 3) := by decide +kernel
theorem dX1_copyFrom_70 : decode cX1_copyFrom 70 = .ok (.aload_n 1, 1) := by decide +kernel
theorem dX1_copyFrom_71 : decode cX1_copyFrom 71 = .ok (.getfield 25, 3) := by decide +kernel
theorem dX1_copyFrom_74 : decode cX1_copyFrom 74 = .ok (.iconst 0, 1) := by decide +kernel
theorem dX1_copyFrom_75 : decode cX1_copyFrom 75 = .ok (.aload_n 0, 1) := by decide +kernel
theorem dX1_copyFrom_76 : decode cX1_copyFrom 76 = .ok (.getfield 25, 3) := by decide +kernel
theorem dX1_copyFrom_79 : decode cX1_copyFrom 79 = .ok (.iconst 0, 1) := by decide +kernel
theorem dX1_copyFrom_80 : decode cX1_copyFrom 80 = .ok (.bipush 8, 2) := by decide +kernel
theorem dX1_copyFrom_82 : decode cX1_copyFrom 82 = .ok (.invokestatic 61, 3) := by decide +kernel
theorem dX1_copyFrom_85 : decode cX1_copyFrom 85 = .ok (.aload_n 1, 1) := by decide +kernel
theorem dX1_copyFrom_86 : decode cX1_copyFrom 86 = .ok (.getfield 28, 3) := by decide +kernel
theorem dX1_copyFrom_89 : decode cX1_copyFrom 89 = .ok (.iconst 0, 1) := by decide +kernel
theorem dX1_copyFrom_90 : decode cX1_copyFrom 90 = .ok (.aload_n 0, 1) := by decide +kernel
theorem dX1_copyFrom_91 : decode cX1_copyFrom 91 = .ok (.getfield 28, 3) := by decide +kernel
theorem dX1_copyFrom_94 : decode cX1_copyFrom 94 = .ok (.iconst 0, 1) := by decide +kernel
theorem dX1_copyFrom_95 : decode cX1_copyFrom 95 = .ok (.bipush 8, 2) := by decide +kernel
theorem dX1_copyFrom_97 : decode cX1_copyFrom 97 = .ok (.invokestatic 61, 3) := by decide +kernel
theorem dX1_copyFrom_100 : decode cX1_copyFrom 100 = .ok (.aload_n 1, 1) := by decide +kernel
theorem dX1_copyFrom_101 : decode cX1_copyFrom 101 = .ok (.getfield 31, 3) := by decide +kernel
theorem dX1_copyFrom_104 : decode cX1_copyFrom 104 = .ok (.iconst 0, 1) := by decide +kernel
theorem dX1_copyFrom_105 : decode cX1_copyFrom 105 = .ok (.aload_n 0, 1) := by decide +kernel
theorem dX1_copyFrom_106 : decode cX1_copyFrom 106 = .ok (.getfield 31, 3) := by decide +kernel
theorem dX1_copyFrom_109 : decode cX1_copyFrom 109 = .ok (.iconst 0, 1) := by decide +kernel
theorem dX1_copyFrom_110 : decode cX1_copyFrom 110 = .ok (.bipush 8, 2) := by decide +kernel
theorem dX1_copyFrom_112 : decode cX1_copyFrom 112 = .ok (.invokestatic 61, 3) := by decide +kernel
theorem dX1_copyFrom_115 : decode cX1_copyFrom 115 = .ok (.aload_n 1, 1) := by decide +kernel
theorem dX1_copyFrom_116 : decode cX1_copyFrom 116 = .ok (.getfield 34, 3) := by decide +kernel
theorem dX1_copyFrom_119 : decode cX1_copyFrom 119 = .ok (.iconst 0, 1) := by decide +kernel
theorem dX1_copyFrom_120 : decode cX1_copyFrom 120 = .ok (.aload_n 0, 1) := by decide +kernel
theorem dX1_copyFrom_121 : decode cX1_copyFrom 121 = .ok (.getfield 34, 3) := by decide +kernel
theorem dX1_copyFrom_124 : decode cX1_copyFrom 124 = .ok (.iconst 0, 1) := by decide +kernel
theorem dX1_copyFrom_125 : decode cX1_copyFrom 125 = .ok (.bipush 8, 2) := by decide +kernel
theorem dX1_copyFrom_127 : decode cX1_copyFrom 127 = .ok (.invokestatic 61, 3) := by decide +kernel
theorem dX1_copyFrom_130 : decode cX1_copyFrom 130 = .ok (.aload_n 1, 1) := by decide +kernel
theorem dX1_copyFrom_131 : decode cX1_copyFrom 131 = .ok (.getfield 37, 3) := by decide +kernel
theorem dX1_copyFrom_134 : decode cX1_copyFrom 134 = .ok (.iconst 0, 1) := by decide +kernel
theorem dX1_copyFrom_135 : decode cX1_copyFrom 135 = .ok (.aload_n 0, 1) := by decide +kernel
theorem dX1_copyFrom_136 : decode cX1_copyFrom 136 = .ok (.getfield 37, 3) := by decide +kernel
theorem dX1_copyFrom_139 : decode cX1_copyFrom 139 = .ok (.iconst 0, 1) := by decide +kernel
theorem dX1_copyFrom_140 : decode cX1_copyFrom 140 = .ok (.bipush 8, 2) := by decide +kernel
theorem dX1_copyFrom_142 : decode cX1_copyFrom 142 = .ok (.invokestatic 61, 3) := by decide +kernel
theorem dX1_copyFrom_145 : decode cX1_copyFrom 145 = .ok (.aload_n 1, 1) := by decide +kernel
theorem dX1_copyFrom_146 : decode cX1_copyFrom 146 = .ok (.getfield 40, 3) := by decide +kernel
theorem dX1_copyFrom_149 : decode cX1_copyFrom 149 = .ok (.iconst 0, 1) := by decide +kernel
theorem dX1_copyFrom_150 : decode cX1_copyFrom 150 = .ok (.aload_n 0, 1) := by decide +kernel
theorem dX1_copyFrom_151 : decode cX1_copyFrom 151 = .ok (.getfield 40, 3) := by decide +kernel
theorem dX1_copyFrom_154 : decode cX1_copyFrom 154 = .ok (.iconst 0, 1) := by decide +kernel
theorem dX1_copyFrom_155 : decode cX1_copyFrom 155 = .ok (.bipush 8, 2) := by decide +kernel
theorem dX1_copyFrom_157 : decode cX1_copyFrom 157 = .ok (.invokestatic 61, 3) := by decide +kernel
theorem dX1_copyFrom_160 : decode cX1_copyFrom 160 = .ok (.aload_n 1, 1) := by decide +kernel
theorem dX1_copyFrom_161 : decode cX1_copyFrom 161 = .ok (.getfield 43, 3) := by decide +kernel
theorem dX1_copyFrom_164 : decode cX1_copyFrom 164 = .ok (.iconst 0, 1) := by decide +kernel
theorem dX1_copyFrom_165 : decode cX1_copyFrom 165 = .ok (.aload_n 0, 1) := by decide +kernel
theorem dX1_copyFrom_166 : decode cX1_copyFrom 166 = .ok (.getfield 43, 3) := by decide +kernel
theorem dX1_copyFrom_169 : decode cX1_copyFrom 169 = .ok (.iconst 0, 1) := by decide +kernel
theorem dX1_copyFrom_170 : decode cX1_copyFrom 170 = .ok (.bipush 8, 2) := by decide +kernel
theorem dX1_copyFrom_172 : decode cX1_copyFrom 172 = .ok (.invokestatic 61, 3) := by decide +kernel
theorem dX1_copyFrom_175 : decode cX1_copyFrom 175 = .ok (.aload_n 1, 1) := by decide +kernel
theorem dX1_copyFrom_176 : decode cX1_copyFrom 176 = .ok (.getfield 46, 3) := by decide +kernel
theorem dX1_copyFrom_179 : decode cX1_copyFrom 179 = .ok (.iconst 0, 1) := by decide +kernel
theorem dX1_copyFrom_180 : decode cX1_copyFrom 180 = .ok (.aload_n 0, 1) := by decide +kernel
theorem dX1_copyFrom_181 : decode cX1_copyFrom 181 = .ok (.getfield 46, 3) := by decide +kernel
theorem dX1_copyFrom_184 : decode cX1_copyFrom 184 = .ok (.iconst 0, 1) := by decide +kernel
theorem dX1_copyFrom_185 : decode cX1_copyFrom 185 = .ok (.bipush 40, 2) := by decide +kernel
theorem dX1_copyFrom_187 : decode cX1_copyFrom 187 = .ok (.invokestatic 61, 3) := by decide +kernel
theorem dX1_copyFrom_190 : decode cX1_copyFrom 190 = .ok (.aload_n 1, 1) := by decide +kernel
theorem dX1_copyFrom_191 : decode cX1_copyFrom 191 = .ok (.getfield 49, 3) := by decide +kernel
theorem dX1_copyFrom_194 : decode cX1_copyFrom 194 = .ok (.iconst 0, 1) := by decide +kernel
theorem dX1_copyFrom_195 : decode cX1_copyFrom 195 = .ok (.aload_n 0, 1) := by decide +kernel
theorem dX1_copyFrom_196 : decode cX1_copyFrom 196 = .ok (.getfield 49, 3) := by decide +kernel
theorem dX1_copyFrom_199 : decode cX1_copyFrom 199 = .ok (.iconst 0, 1) := by decide +kernel
theorem dX1_copyFrom_200 : decode cX1_copyFrom 200 = .ok (.bipush 40, 2) := by decide +kernel
theorem dX1_copyFrom_202 : decode cX1_copyFrom 202 = .ok (.invokestatic 61, 3) := by decide +kernel
theorem dX1_copyFrom_205 : decode cX1_copyFrom 205 = .ok (.return_, 1) := by decide +kernel
theorem dX2_init_0 : decode cX2_init 0 = .ok (.aload_n 0, 1) := by decide +kernel
theorem dX2_init_1 : decode cX2_init 1 = .ok (.invokespecial 1, 3) := by decide +kernel
theorem dX2_init_4 : decode cX2_init 4 = .ok (.aload_n 0, 1) := by decide +kernel
theorem dX2_init_5 : decode cX2_init 5 = .ok (.new 7, 3) := by decide +kernel
theorem dX2_init_8 : decode cX2_init 8 = .ok (.dup, 1) := by decide +kernel
theorem dX2_init_9 : decode cX2_init 9 = .ok (.invokespecial 9, 3) := by decide +kernel
theorem dX2_init_12 : decode cX2_init 12 = .ok (.putfield 10, 3) := by decide +kernel
theorem dX2_init_15 : decode cX2_init 15 = .ok (.aload_n 0, 1) := by decide +kernel
theorem dX2_init_16 : decode cX2_init 16 = .ok (.new 16, 3) := by decide +kernel
theorem dX2_init_19 : decode cX2_init 19 = .ok (.dup, 1) := by decide +kernel
theorem dX2_init_20 : decode cX2_init 20 = .ok (.invokespecial 18, 3) := by decide +kernel
theorem dX2_init_23 : decode cX2_init 23 = .ok (.putfield 19, 3) := by decide +kernel
theorem dX2_init_26 : decode cX2_init 26 = .ok (.aload_n 0, 1) := by decide +kernel
theorem dX2_init_27 : decode cX2_init 27 = .ok (.new 23, 3) := by decide +kernel
theorem dX2_init_30 : decode cX2_init 30 = .ok (.dup, 1) := by decide +kernel
theorem dX2_init_31 : decode cX2_init 31 = .ok (.invokespecial 25, 3) := by decide +kernel
theorem dX2_init_34 : decode cX2_init 34 = .ok (.putfield 26, 3) := by decide +kernel
theorem dX2_init_37 : decode cX2_init 37 = .ok (.return_, 1) := by decide +kernel
theorem dX3_init_0 : decode cX3_init 0 = .ok (.aload_n 0, 1) := by decide +kernel
theorem dX3_init_1 : decode cX3_init 1 = .ok (.invokespecial 3, 3) := by decide +kernel
theorem dX3_init_4 : decode cX3_init 4 = .ok (.aload_n 0, 1) := by decide +kernel
theorem dX3_init_5 : decode cX3_init 5 = .ok (.bipush 8, 2) := by decide +kernel
theorem dX3_init_7 : decode cX3_init 7 = .ok (.newarray .int, 2) := by decide +kernel
theorem dX3_init_9 : decode cX3_init 9 = .ok (.putfield 9, 3) := by decide +kernel
theorem dX3_init_12 : decode cX3_init 12 = .ok (.aload_n 0, 1) := by decide +kernel
theorem dX3_init_13 : decode cX3_init 13 = .ok (.bipush 8, 2) := by decide +kernel
theorem dX3_init_15 : decode cX3_init 15 = .ok (.newarray .int, 2) := by decide +kernel
theorem dX3_init_17 : decode cX3_init 17 = .ok (.putfield 15, 3) := by decide +kernel
theorem dX3_init_20 : decode cX3_init 20 = .ok (.aload_n 0, 1) := by decide +kernel
theorem dX3_init_21 : decode cX3_init 21 = .ok (.bipush 8, 2) := by decide +kernel
theorem dX3_init_23 : decode cX3_init 23 = .ok (.newarray .int, 2) := by decide +kernel
theorem dX3_init_25 : decode cX3_init 25 = .ok (.putfield 18, 3) := by decide +kernel
theorem dX3_init_28 : decode cX3_init 28 = .ok (.aload_n 0, 1) := by decide +kernel
theorem dX3_init_29 : decode cX3_init 29 = .ok (.getfield 9, 3) := by decide +kernel
theorem dX3_init_32 : decode cX3_init 32 = .ok (.iconst (-1), 1) := by decide +kernel
theorem dX3_init_33 : decode cX3_init 33 = .ok (.invokestatic 21, 3) := by decide +kernel
theorem dX3_init_36 : decode cX3_init 36 = .ok (.aload_n 0, 1) := by decide +kernel
theorem dX3_init_37 : decode cX3_init 37 = .ok (.getfield 15, 3) := by decide +kernel
theorem dX3_init_40 : decode cX3_init 40 = .ok (.iconst (-1), 1) := by decide +kernel
theorem dX3_init_41 : decode cX3_init 41 = .ok (.invokestatic 21, 3) := by decide +kernel
theorem dX3_init_44 : decode cX3_init 44 = .ok (.return_, 1) := by decide +kernel
theorem dX3_begin_0 : decode cX3_begin 0 = .ok (.aload_n 0, 1) := by decide +kernel
theorem dX3_begin_1 : decode cX3_begin 1 = .ok (.iconst 0, 1) := by decide +kernel
theorem dX3_begin_2 : decode cX3_begin 2 = .ok (.putfield 27, 3) := by decide +kernel
theorem dX3_begin_5 : decode cX3_begin 5 = .ok (.aload_n 0, 1) := by decide +kernel
theorem dX3_begin_6 : decode cX3_begin 6 = .ok (.getfield 9, 3) := by decide +kernel
theorem dX3_begin_9 : decode cX3_begin 9 = .ok (.iconst (-1), 1) := by decide +kernel
theorem dX3_begin_10 : decode cX3_begin 10 = .ok (.invokestatic 21, 3) := by decide +kernel
theorem dX3_begin_13 : decode cX3_begin 13 = .ok (.aload_n 0, 1) := by decide +kernel
theorem dX3_begin_14 : decode cX3_begin 14 = .ok (.getfield 15, 3) := by decide +kernel
theorem dX3_begin_17 : decode cX3_begin 17 = .ok (.iconst (-1), 1) := by decide +kernel
theorem dX3_begin_18 : decode cX3_begin 18 = .ok (.invokestatic 21, 3) := by decide +kernel
theorem dX3_begin_21 : decode cX3_begin 21 = .ok (.aload_n 1, 1) := by decide +kernel
theorem dX3_begin_22 : decode cX3_begin 22 = .ok (.getfield 31, 3) := by decide +kernel
theorem dX3_begin_25 : decode cX3_begin 25 = .ok (.iconst 0, 1) := by decide +kernel
theorem dX3_begin_26 : decode cX3_begin 26 = .ok (.aload_n 0, 1) := by decide +kernel
theorem dX3_begin_27 : decode cX3_begin 27 = .ok (.getfield 18, 3) := by decide +kernel
theorem dX3_begin_30 : decode cX3_begin 30 = .ok (.iconst 0, 1) := by decide +kernel
theorem dX3_begin_31 : decode cX3_begin 31 = .ok (.bipush 8, 2) := by decide +kernel
theorem dX3_begin_33 : decode cX3_begin 33 = .ok (.invokestatic 34, 3) := by decide +kernel
theorem dX3_begin_36 : decode cX3_begin 36 = .ok (.iconst 0, 1) := by decide +kernel
theorem dX3_begin_37 : decode cX3_begin 37 = .ok (.istore_n 2, 1) := by decide +kernel
theorem dX3_begin_38 : decode cX3_begin 38 = .ok (.iload_n 2, 1) := by decide +kernel
theorem dX3_begin_39 : decode cX3_begin 39 = .ok (.bipush 99, 2) := by decide +kernel
theorem dX3_begin_41 : decode cX3_begin 41 = .ok (.if_icmp .gt 51, 3) := by decide +kernel
theorem dX3_begin_44 : decode cX3_begin 44 = .ok (.iconst 0, 1) := by decide +kernel
theorem dX3_begin_45 : decode cX3_begin 45 = .ok (.istore_n 3, 1) := by decide +kernel
theorem dX3_begin_46 : decode cX3_begin 46 = .ok (.iload_n 3, 1) := by decide +kernel
theorem dX3_begin_47 : decode cX3_begin 47 = .ok (.aload_n 1, 1) := by decide +kernel
theorem dX3_begin_48 : decode cX3_begin 48 = .ok (.getfield 40, 3) := by decide +kernel
theorem dX3_begin_51 : decode cX3_begin 51 = .ok (.if_icmp .ge 35, 3) := by decide +kernel
theorem dX3_begin_54 : decode cX3_begin 54 = .ok (.aload_n 0, 1) := by decide +kernel
theorem dX3_begin_55 : decode cX3_begin 55 = .ok (.getfield 18, 3) := by decide +kernel
theorem dX3_begin_58 : decode cX3_begin 58 = .ok (.iload_n 3, 1) := by decide +kernel
theorem dX3_begin_59 : decode cX3_begin 59 = .ok (.iaload, 1) := by decide +kernel
theorem dX3_begin_60 : decode cX3_begin 60 = .ok (.iload_n 2, 1) := by decide +kernel
theorem dX3_begin_61 : decode cX3_begin 61 = .ok (.if_icmp .ne 19, 3) := by decide +kernel
theorem dX3_begin_64 : decode cX3_begin 64 = .ok (.aload_n 0, 1) := by decide +kernel
theorem dX3_begin_65 : decode cX3_begin 65 = .ok (.iload_n 3, 1) := by decide +kernel
theorem dX3_begin_66 : decode cX3_begin 66 = .ok (.aload_n 0, 1) := by decide +kernel
theorem dX3_begin_67 : decode cX3_begin 67 = .ok (.aload_n 1, 1) := by decide +kernel
theorem dX3_begin_68 : decode cX3_begin 68 = .ok (.aload_n 1, 1) := by decide +kernel
theorem dX3_begin_69 : decode cX3_begin 69 = .ok (.getfield 43, 3) := by decide +kernel
theorem dX3_begin_72 : decode cX3_begin 72 = .ok (.iload_n 3, 1) := by decide +kernel
theorem dX3_begin_73 : decode cX3_begin 73 = .ok (.iaload, 1) := by decide +kernel
theorem dX3_begin_74 : decode cX3_begin 74 = .ok (.invokevirtual 46, 3) := by decide +kernel
theorem dX3_begin_77 : decode cX3_begin 77 = .ok (.invokevirtual 50, 3) := by decide +kernel
theorem dX3_begin_80 : decode cX3_begin 80 = .ok (.iinc 3 1, 3) := by decide +kernel
theorem dX3_begin_83 : decode cX3_begin 83 = .ok (.goto (-37), 3) := by decide +kernel
theorem dX3_begin_86 : decode cX3_begin 86 = .ok (.iinc 2 1, 3) := by decide +kernel
theorem dX3_begin_89 : decode cX3_begin 89 = .ok (.goto (-51), 3) := by decide +kernel
theorem dX3_begin_92 : decode cX3_begin 92 = .ok (.return_, 1) := by decide +kernel
theorem dX3_shortestRow_0 : decode cX3_shortestRow 0 = .ok (.iconst (-1), 1) := by decide +kernel
theorem dX3_shortestRow_1 : decode cX3_shortestRow 1 = .ok (.istore_n 3, 1) := by decide +kernel
theorem dX3_shortestRow_2 : decode cX3_shortestRow 2 = .ok (.iconst 0, 1) := by decide +kernel
theorem dX3_shortestRow_3 : decode cX3_shortestRow 3 = .ok (.istore 4, 2) := by decide +kernel
theorem dX3_shortestRow_5 : decode cX3_shortestRow 5 = .ok (.iload 4, 2) := by decide +kernel
theorem dX3_shortestRow_7 : decode cX3_shortestRow 7 = .ok (.aload_n 1, 1) := by decide +kernel
theorem dX3_shortestRow_8 : decode cX3_shortestRow 8 = .ok (.getfield 54, 3) := by decide +kernel
theorem dX3_shortestRow_11 : decode cX3_shortestRow 11 = .ok (.if_icmp .ge 42, 3) := by decide +kernel
theorem dX3_shortestRow_14 : decode cX3_shortestRow 14 = .ok (.aload_n 1, 1) := by decide +kernel
theorem dX3_shortestRow_15 : decode cX3_shortestRow 15 = .ok (.getfield 57, 3) := by decide +kernel
theorem dX3_shortestRow_18 : decode cX3_shortestRow 18 = .ok (.iload 4, 2) := by decide +kernel
theorem dX3_shortestRow_20 : decode cX3_shortestRow 20 = .ok (.iaload, 1) := by decide +kernel
theorem dX3_shortestRow_21 : decode cX3_shortestRow 21 = .ok (.iload_n 2, 1) := by decide +kernel
theorem dX3_shortestRow_22 : decode cX3_shortestRow 22 = .ok (.if_icmp .ne 25, 3) := by decide +kernel
theorem dX3_shortestRow_25 : decode cX3_shortestRow 25 = .ok (.iload_n 3, 1) := by decide +kernel
theorem dX3_shortestRow_26 : decode cX3_shortestRow 26 = .ok (.iconst (-1), 1) := by decide +kernel
theorem dX3_shortestRow_27 : decode cX3_shortestRow 27 = .ok (.if_icmp .eq 17, 3) := by decide +kernel
theorem dX3_shortestRow_30 : decode cX3_shortestRow 30 = .ok (.aload_n 0, 1) := by decide +kernel
theorem dX3_shortestRow_31 : decode cX3_shortestRow 31 = .ok (.iload 4, 2) := by decide +kernel
theorem dX3_shortestRow_33 : decode cX3_shortestRow 33 = .ok (.invokevirtual 60, 3) := by decide +kernel
theorem dX3_shortestRow_36 : decode cX3_shortestRow 36 = .ok (.aload_n 0, 1) := by decide +kernel
theorem dX3_shortestRow_37 : decode cX3_shortestRow 37 = .ok (.iload_n 3, 1) := by decide +kernel
theorem dX3_shortestRow_38 : decode cX3_shortestRow 38 = .ok (.invokevirtual 60, 3) := by decide +kernel
theorem dX3_shortestRow_41 : decode cX3_shortestRow 41 = .ok (.if_icmp .ge 6, 3) := by decide +kernel
theorem dX3_shortestRow_44 : decode cX3_shortestRow 44 = .ok (.iload 4, 2) := by decide +kernel
theorem dX3_shortestRow_46 : decode cX3_shortestRow 46 = .ok (.istore_n 3, 1) := by decide +kernel
theorem dX3_shortestRow_47 : decode cX3_shortestRow 47 = .ok (.iinc 4 1, 3) := by decide +kernel
theorem dX3_shortestRow_50 : decode cX3_shortestRow 50 = .ok (.goto (-45), 3) := by decide +kernel
theorem dX3_shortestRow_53 : decode cX3_shortestRow 53 = .ok (.iload_n 3, 1) := by decide +kernel
theorem dX3_shortestRow_54 : decode cX3_shortestRow 54 = .ok (.ireturn, 1) := by decide +kernel
theorem dX3_putLast_0 : decode cX3_putLast 0 = .ok (.iload_n 2, 1) := by decide +kernel
theorem dX3_putLast_1 : decode cX3_putLast 1 = .ok (.iconst (-1), 1) := by decide +kernel
theorem dX3_putLast_2 : decode cX3_putLast 2 = .ok (.if_icmp .eq 23, 3) := by decide +kernel
theorem dX3_putLast_5 : decode cX3_putLast 5 = .ok (.aload_n 0, 1) := by decide +kernel
theorem dX3_putLast_6 : decode cX3_putLast 6 = .ok (.iload_n 2, 1) := by decide +kernel
theorem dX3_putLast_7 : decode cX3_putLast 7 = .ok (.invokevirtual 60, 3) := by decide +kernel
theorem dX3_putLast_10 : decode cX3_putLast 10 = .ok (.istore_n 3, 1) := by decide +kernel
theorem dX3_putLast_11 : decode cX3_putLast 11 = .ok (.aload_n 0, 1) := by decide +kernel
theorem dX3_putLast_12 : decode cX3_putLast 12 = .ok (.getfield 9, 3) := by decide +kernel
theorem dX3_putLast_15 : decode cX3_putLast 15 = .ok (.iload_n 1, 1) := by decide +kernel
theorem dX3_putLast_16 : decode cX3_putLast 16 = .ok (.iload_n 2, 1) := by decide +kernel
theorem dX3_putLast_17 : decode cX3_putLast 17 = .ok (.iastore, 1) := by decide +kernel
theorem dX3_putLast_18 : decode cX3_putLast 18 = .ok (.aload_n 0, 1) := by decide +kernel
theorem dX3_putLast_19 : decode cX3_putLast 19 = .ok (.getfield 15, 3) := by decide +kernel
theorem dX3_putLast_22 : decode cX3_putLast 22 = .ok (.iload_n 1, 1) := by decide +kernel
theorem dX3_putLast_23 : decode cX3_putLast 23 = .ok (.iload_n 3, 1) := by decide +kernel
theorem dX3_putLast_24 : decode cX3_putLast 24 = .ok (.iastore, 1) := by decide +kernel
theorem dX3_putLast_25 : decode cX3_putLast 25 = .ok (.return_, 1) := by decide +kernel
theorem dX3_isInRow_0 : decode cX3_isInRow 0 = .ok (.iload_n 1, 1) := by decide +kernel
theorem dX3_isInRow_1 : decode cX3_isInRow 1 = .ok (.ifCond .lt 23, 3) := by decide +kernel
theorem dX3_isInRow_4 : decode cX3_isInRow 4 = .ok (.iload_n 1, 1) := by decide +kernel
theorem dX3_isInRow_5 : decode cX3_isInRow 5 = .ok (.bipush 8, 2) := by decide +kernel
theorem dX3_isInRow_7 : decode cX3_isInRow 7 = .ok (.if_icmp .ge 17, 3) := by decide +kernel
theorem dX3_isInRow_10 : decode cX3_isInRow 10 = .ok (.aload_n 0, 1) := by decide +kernel
theorem dX3_isInRow_11 : decode cX3_isInRow 11 = .ok (.getfield 9, 3) := by decide +kernel
theorem dX3_isInRow_14 : decode cX3_isInRow 14 = .ok (.iload_n 1, 1) := by decide +kernel
theorem dX3_isInRow_15 : decode cX3_isInRow 15 = .ok (.iaload, 1) := by decide +kernel
theorem dX3_isInRow_16 : decode cX3_isInRow 16 = .ok (.iconst (-1), 1) := by decide +kernel
theorem dX3_isInRow_17 : decode cX3_isInRow 17 = .ok (.if_icmp .eq 7, 3) := by decide +kernel
theorem dX3_isInRow_20 : decode cX3_isInRow 20 = .ok (.iconst 1, 1) := by decide +kernel
theorem dX3_isInRow_21 : decode cX3_isInRow 21 = .ok (.goto 4, 3) := by decide +kernel
theorem dX3_isInRow_24 : decode cX3_isInRow 24 = .ok (.iconst 0, 1) := by decide +kernel
theorem dX3_isInRow_25 : decode cX3_isInRow 25 = .ok (.ireturn, 1) := by decide +kernel
theorem dX3_isAt_0 : decode cX3_isAt 0 = .ok (.aload_n 0, 1) := by decide +kernel
theorem dX3_isAt_1 : decode cX3_isAt 1 = .ok (.getfield 9, 3) := by decide +kernel
theorem dX3_isAt_4 : decode cX3_isAt 4 = .ok (.iload_n 1, 1) := by decide +kernel
theorem dX3_isAt_5 : decode cX3_isAt 5 = .ok (.iaload, 1) := by decide +kernel
theorem dX3_isAt_6 : decode cX3_isAt 6 = .ok (.iload_n 2, 1) := by decide +kernel
theorem dX3_isAt_7 : decode cX3_isAt 7 = .ok (.if_icmp .ne 17, 3) := by decide +kernel
theorem dX3_isAt_10 : decode cX3_isAt 10 = .ok (.aload_n 0, 1) := by decide +kernel
theorem dX3_isAt_11 : decode cX3_isAt 11 = .ok (.getfield 15, 3) := by decide +kernel
theorem dX3_isAt_14 : decode cX3_isAt 14 = .ok (.iload_n 1, 1) := by decide +kernel
theorem dX3_isAt_15 : decode cX3_isAt 15 = .ok (.iaload, 1) := by decide +kernel
theorem dX3_isAt_16 : decode cX3_isAt 16 = .ok (.iload_n 3, 1) := by decide +kernel
theorem dX3_isAt_17 : decode cX3_isAt 17 = .ok (.if_icmp .ne 7, 3) := by decide +kernel
theorem dX3_isAt_20 : decode cX3_isAt 20 = .ok (.iconst 1, 1) := by decide +kernel
theorem dX3_isAt_21 : decode cX3_isAt 21 = .ok (.goto 4, 3) := by decide +kernel
theorem dX3_isAt_24 : decode cX3_isAt 24 = .ok (.iconst 0, 1) := by decide +kernel
theorem dX3_isAt_25 : decode cX3_isAt 25 = .ok (.ireturn, 1) := by decide +kernel
theorem dX3_rowLength_0 : decode cX3_rowLength 0 = .ok (.iconst 0, 1) := by decide +kernel
theorem dX3_rowLength_1 : decode cX3_rowLength 1 = .ok (.istore_n 2, 1) := by decide +kernel
theorem dX3_rowLength_2 : decode cX3_rowLength 2 = .ok (.iconst 0, 1) := by decide +kernel
theorem dX3_rowLength_3 : decode cX3_rowLength 3 = .ok (.istore_n 3, 1) := by decide +kernel
theorem dX3_rowLength_4 : decode cX3_rowLength 4 = .ok (.iload_n 3, 1) := by decide +kernel
theorem dX3_rowLength_5 : decode cX3_rowLength 5 = .ok (.bipush 8, 2) := by decide +kernel
theorem dX3_rowLength_7 : decode cX3_rowLength 7 = .ok (.if_icmp .ge 22, 3) := by decide +kernel
theorem dX3_rowLength_10 : decode cX3_rowLength 10 = .ok (.aload_n 0, 1) := by decide +kernel
theorem dX3_rowLength_11 : decode cX3_rowLength 11 = .ok (.getfield 9, 3) := by decide +kernel
theorem dX3_rowLength_14 : decode cX3_rowLength 14 = .ok (.iload_n 3, 1) := by decide +kernel
theorem dX3_rowLength_15 : decode cX3_rowLength 15 = .ok (.iaload, 1) := by decide +kernel
theorem dX3_rowLength_16 : decode cX3_rowLength 16 = .ok (.iload_n 1, 1) := by decide +kernel
theorem dX3_rowLength_17 : decode cX3_rowLength 17 = .ok (.if_icmp .ne 6, 3) := by decide +kernel
theorem dX3_rowLength_20 : decode cX3_rowLength 20 = .ok (.iinc 2 1, 3) := by decide +kernel
theorem dX3_rowLength_23 : decode cX3_rowLength 23 = .ok (.iinc 3 1, 3) := by decide +kernel
theorem dX3_rowLength_26 : decode cX3_rowLength 26 = .ok (.goto (-22), 3) := by decide +kernel
theorem dX3_rowLength_29 : decode cX3_rowLength 29 = .ok (.iload_n 2, 1) := by decide +kernel
theorem dX3_rowLength_30 : decode cX3_rowLength 30 = .ok (.ireturn, 1) := by decide +kernel
theorem dX3_othersAt_0 : decode cX3_othersAt 0 = .ok (.aload_n 0, 1) := by decide +kernel
theorem dX3_othersAt_1 : decode cX3_othersAt 1 = .ok (.getfield 9, 3) := by decide +kernel
theorem dX3_othersAt_4 : decode cX3_othersAt 4 = .ok (.iload_n 2, 1) := by decide +kernel
theorem dX3_othersAt_5 : decode cX3_othersAt 5 = .ok (.iaload, 1) := by decide +kernel
theorem dX3_othersAt_6 : decode cX3_othersAt 6 = .ok (.iload_n 1, 1) := by decide +kernel
theorem dX3_othersAt_7 : decode cX3_othersAt 7 = .ok (.if_icmp .ne 13, 3) := by decide +kernel
theorem dX3_othersAt_10 : decode cX3_othersAt 10 = .ok (.aload_n 0, 1) := by decide +kernel
theorem dX3_othersAt_11 : decode cX3_othersAt 11 = .ok (.iload_n 1, 1) := by decide +kernel
theorem dX3_othersAt_12 : decode cX3_othersAt 12 = .ok (.invokevirtual 60, 3) := by decide +kernel
theorem dX3_othersAt_15 : decode cX3_othersAt 15 = .ok (.iconst 1, 1) := by decide +kernel
theorem dX3_othersAt_16 : decode cX3_othersAt 16 = .ok (.isub, 1) := by decide +kernel
theorem dX3_othersAt_17 : decode cX3_othersAt 17 = .ok (.goto 8, 3) := by decide +kernel
theorem dX3_othersAt_20 : decode cX3_othersAt 20 = .ok (.aload_n 0, 1) := by decide +kernel
theorem dX3_othersAt_21 : decode cX3_othersAt 21 = .ok (.iload_n 1, 1) := by decide +kernel
theorem dX3_othersAt_22 : decode cX3_othersAt 22 = .ok (.invokevirtual 60, 3) := by decide +kernel
theorem dX3_othersAt_25 : decode cX3_othersAt 25 = .ok (.ireturn, 1) := by decide +kernel
theorem dX3_truckAt_0 : decode cX3_truckAt 0 = .ok (.iconst 0, 1) := by decide +kernel
theorem dX3_truckAt_1 : decode cX3_truckAt 1 = .ok (.istore_n 3, 1) := by decide +kernel
theorem dX3_truckAt_2 : decode cX3_truckAt 2 = .ok (.iload_n 3, 1) := by decide +kernel
theorem dX3_truckAt_3 : decode cX3_truckAt 3 = .ok (.bipush 8, 2) := by decide +kernel
theorem dX3_truckAt_5 : decode cX3_truckAt 5 = .ok (.if_icmp .ge 21, 3) := by decide +kernel
theorem dX3_truckAt_8 : decode cX3_truckAt 8 = .ok (.aload_n 0, 1) := by decide +kernel
theorem dX3_truckAt_9 : decode cX3_truckAt 9 = .ok (.iload_n 3, 1) := by decide +kernel
theorem dX3_truckAt_10 : decode cX3_truckAt 10 = .ok (.iload_n 1, 1) := by decide +kernel
theorem dX3_truckAt_11 : decode cX3_truckAt 11 = .ok (.iload_n 2, 1) := by decide +kernel
theorem dX3_truckAt_12 : decode cX3_truckAt 12 = .ok (.invokevirtual 64, 3) := by decide +kernel
theorem dX3_truckAt_15 : decode cX3_truckAt 15 = .ok (.ifCond .eq 5, 3) := by decide +kernel
theorem dX3_truckAt_18 : decode cX3_truckAt 18 = .ok (.iload_n 3, 1) := by decide +kernel
theorem dX3_truckAt_19 : decode cX3_truckAt 19 = .ok (.ireturn, 1) := by decide +kernel
theorem dX3_truckAt_20 : decode cX3_truckAt 20 = .ok (.iinc 3 1, 3) := by decide +kernel
theorem dX3_truckAt_23 : decode cX3_truckAt 23 = .ok (.goto (-21), 3) := by decide +kernel
theorem dX3_truckAt_26 : decode cX3_truckAt 26 = .ok (.iconst (-1), 1) := by decide +kernel
theorem dX3_truckAt_27 : decode cX3_truckAt 27 = .ok (.ireturn, 1) := by decide +kernel
theorem dX3_relocate_0 : decode cX3_relocate 0 = .ok (.iconst 0, 1) := by decide +kernel
theorem dX3_relocate_1 : decode cX3_relocate 1 = .ok (.istore 4, 2) := by decide +kernel
theorem dX3_relocate_3 : decode cX3_relocate 3 = .ok (.iload 4, 2) := by decide +kernel
theorem dX3_relocate_5 : decode cX3_relocate 5 = .ok (.bipush 8, 2) := by decide +kernel
theorem dX3_relocate_7 : decode cX3_relocate 7 = .ok (.if_icmp .ge 52, 3) := by decide +kernel
theorem dX3_relocate_10 : decode cX3_relocate 10 = .ok (.aload_n 0, 1) := by decide +kernel
theorem dX3_relocate_11 : decode cX3_relocate 11 = .ok (.getfield 9, 3) := by decide +kernel
theorem dX3_relocate_14 : decode cX3_relocate 14 = .ok (.iload 4, 2) := by decide +kernel
theorem dX3_relocate_16 : decode cX3_relocate 16 = .ok (.iaload, 1) := by decide +kernel
theorem dX3_relocate_17 : decode cX3_relocate 17 = .ok (.aload_n 0, 1) := by decide +kernel
theorem dX3_relocate_18 : decode cX3_relocate 18 = .ok (.getfield 9, 3) := by decide +kernel
theorem dX3_relocate_21 : decode cX3_relocate 21 = .ok (.iload_n 1, 1) := by decide +kernel
theorem dX3_relocate_22 : decode cX3_relocate 22 = .ok (.iaload, 1) := by decide +kernel
theorem dX3_relocate_23 : decode cX3_relocate 23 = .ok (.if_icmp .ne 30, 3) := by decide +kernel
theorem dX3_relocate_26 : decode cX3_relocate 26 = .ok (.aload_n 0, 1) := by decide +kernel
theorem dX3_relocate_27 : decode cX3_relocate 27 = .ok (.getfield 15, 3) := by decide +kernel
theorem dX3_relocate_30 : decode cX3_relocate 30 = .ok (.iload 4, 2) := by decide +kernel
theorem dX3_relocate_32 : decode cX3_relocate 32 = .ok (.iaload, 1) := by decide +kernel
theorem dX3_relocate_33 : decode cX3_relocate 33 = .ok (.aload_n 0, 1) := by decide +kernel
theorem dX3_relocate_34 : decode cX3_relocate 34 = .ok (.getfield 15, 3) := by decide +kernel
theorem dX3_relocate_37 : decode cX3_relocate 37 = .ok (.iload_n 1, 1) := by decide +kernel
theorem dX3_relocate_38 : decode cX3_relocate 38 = .ok (.iaload, 1) := by decide +kernel
theorem dX3_relocate_39 : decode cX3_relocate 39 = .ok (.if_icmp .le 14, 3) := by decide +kernel
theorem dX3_relocate_42 : decode cX3_relocate 42 = .ok (.aload_n 0, 1) := by decide +kernel
theorem dX3_relocate_43 : decode cX3_relocate 43 = .ok (.getfield 15, 3) := by decide +kernel
theorem dX3_relocate_46 : decode cX3_relocate 46 = .ok (.iload 4, 2) := by decide +kernel
theorem dX3_relocate_48 : decode cX3_relocate 48 = .ok (.dup2, 1) := by decide +kernel
theorem dX3_relocate_49 : decode cX3_relocate 49 = .ok (.iaload, 1) := by decide +kernel
theorem dX3_relocate_50 : decode cX3_relocate 50 = .ok (.iconst 1, 1) := by decide +kernel
theorem dX3_relocate_51 : decode cX3_relocate 51 = .ok (.isub, 1) := by decide +kernel
theorem dX3_relocate_52 : decode cX3_relocate 52 = .ok (.iastore, 1) := by decide +kernel
theorem dX3_relocate_53 : decode cX3_relocate 53 = .ok (.iinc 4 1, 3) := by decide +kernel
theorem dX3_relocate_56 : decode cX3_relocate 56 = .ok (.goto (-53), 3) := by decide +kernel
theorem dX3_relocate_59 : decode cX3_relocate 59 = .ok (.aload_n 0, 1) := by decide +kernel
theorem dX3_relocate_60 : decode cX3_relocate 60 = .ok (.getfield 9, 3) := by decide +kernel
theorem dX3_relocate_63 : decode cX3_relocate 63 = .ok (.iload_n 1, 1) := by decide +kernel
theorem dX3_relocate_64 : decode cX3_relocate 64 = .ok (.iconst (-1), 1) := by decide +kernel
theorem dX3_relocate_65 : decode cX3_relocate 65 = .ok (.iastore, 1) := by decide +kernel
theorem dX3_relocate_66 : decode cX3_relocate 66 = .ok (.iconst 0, 1) := by decide +kernel
theorem dX3_relocate_67 : decode cX3_relocate 67 = .ok (.istore 4, 2) := by decide +kernel
theorem dX3_relocate_69 : decode cX3_relocate 69 = .ok (.iload 4, 2) := by decide +kernel
theorem dX3_relocate_71 : decode cX3_relocate 71 = .ok (.bipush 8, 2) := by decide +kernel
theorem dX3_relocate_73 : decode cX3_relocate 73 = .ok (.if_icmp .ge 42, 3) := by decide +kernel
theorem dX3_relocate_76 : decode cX3_relocate 76 = .ok (.aload_n 0, 1) := by decide +kernel
theorem dX3_relocate_77 : decode cX3_relocate 77 = .ok (.getfield 9, 3) := by decide +kernel
theorem dX3_relocate_80 : decode cX3_relocate 80 = .ok (.iload 4, 2) := by decide +kernel
theorem dX3_relocate_82 : decode cX3_relocate 82 = .ok (.iaload, 1) := by decide +kernel
theorem dX3_relocate_83 : decode cX3_relocate 83 = .ok (.iload_n 2, 1) := by decide +kernel
theorem dX3_relocate_84 : decode cX3_relocate 84 = .ok (.if_icmp .ne 25, 3) := by decide +kernel
theorem dX3_relocate_87 : decode cX3_relocate 87 = .ok (.aload_n 0, 1) := by decide +kernel
theorem dX3_relocate_88 : decode cX3_relocate 88 = .ok (.getfield 15, 3) := by decide +kernel
theorem dX3_relocate_91 : decode cX3_relocate 91 = .ok (.iload 4, 2) := by decide +kernel
theorem dX3_relocate_93 : decode cX3_relocate 93 = .ok (.iaload, 1) := by decide +kernel
theorem dX3_relocate_94 : decode cX3_relocate 94 = .ok (.iload_n 3, 1) := by decide +kernel
theorem dX3_relocate_95 : decode cX3_relocate 95 = .ok (.if_icmp .lt 14, 3) := by decide +kernel
theorem dX3_relocate_98 : decode cX3_relocate 98 = .ok (.aload_n 0, 1) := by decide +kernel
theorem dX3_relocate_99 : decode cX3_relocate 99 = .ok (.getfield 15, 3) := by decide +kernel
theorem dX3_relocate_102 : decode cX3_relocate 102 = .ok (.iload 4, 2) := by decide +kernel
theorem dX3_relocate_104 : decode cX3_relocate 104 = .ok (.dup2, 1) := by decide +kernel
theorem dX3_relocate_105 : decode cX3_relocate 105 = .ok (.iaload, 1) := by decide +kernel
theorem dX3_relocate_106 : decode cX3_relocate 106 = .ok (.iconst 1, 1) := by decide +kernel
theorem dX3_relocate_107 : decode cX3_relocate 107 = .ok (.iadd, 1) := by decide +kernel
theorem dX3_relocate_108 : decode cX3_relocate 108 = .ok (.iastore, 1) := by decide +kernel
theorem dX3_relocate_109 : decode cX3_relocate 109 = .ok (.iinc 4 1, 3) := by decide +kernel
theorem dX3_relocate_112 : decode cX3_relocate 112 = .ok (.goto (-43), 3) := by decide +kernel
theorem dX3_relocate_115 : decode cX3_relocate 115 = .ok (.aload_n 0, 1) := by decide +kernel
theorem dX3_relocate_116 : decode cX3_relocate 116 = .ok (.getfield 9, 3) := by decide +kernel
theorem dX3_relocate_119 : decode cX3_relocate 119 = .ok (.iload_n 1, 1) := by decide +kernel
theorem dX3_relocate_120 : decode cX3_relocate 120 = .ok (.iload_n 2, 1) := by decide +kernel
theorem dX3_relocate_121 : decode cX3_relocate 121 = .ok (.iastore, 1) := by decide +kernel
theorem dX3_relocate_122 : decode cX3_relocate 122 = .ok (.aload_n 0, 1) := by decide +kernel
theorem dX3_relocate_123 : decode cX3_relocate 123 = .ok (.getfield 15, 3) := by decide +kernel
theorem dX3_relocate_126 : decode cX3_relocate 126 = .ok (.iload_n 1, 1) := by decide +kernel
theorem dX3_relocate_127 : decode cX3_relocate 127 = .ok (.iload_n 3, 1) := by decide +kernel
theorem dX3_relocate_128 : decode cX3_relocate 128 = .ok (.iastore, 1) := by decide +kernel
theorem dX3_relocate_129 : decode cX3_relocate 129 = .ok (.return_, 1) := by decide +kernel
theorem dX3_exchange_0 : decode cX3_exchange 0 = .ok (.aload_n 0, 1) := by decide +kernel
theorem dX3_exchange_1 : decode cX3_exchange 1 = .ok (.getfield 9, 3) := by decide +kernel
theorem dX3_exchange_4 : decode cX3_exchange 4 = .ok (.iload_n 1, 1) := by decide +kernel
theorem dX3_exchange_5 : decode cX3_exchange 5 = .ok (.iaload, 1) := by decide +kernel
theorem dX3_exchange_6 : decode cX3_exchange 6 = .ok (.istore_n 3, 1) := by decide +kernel
theorem dX3_exchange_7 : decode cX3_exchange 7 = .ok (.aload_n 0, 1) := by decide +kernel
theorem dX3_exchange_8 : decode cX3_exchange 8 = .ok (.getfield 15, 3) := by decide +kernel
theorem dX3_exchange_11 : decode cX3_exchange 11 = .ok (.iload_n 1, 1) := by decide +kernel
theorem dX3_exchange_12 : decode cX3_exchange 12 = .ok (.iaload, 1) := by decide +kernel
theorem dX3_exchange_13 : decode cX3_exchange 13 = .ok (.istore 4, 2) := by decide +kernel
theorem dX3_exchange_15 : decode cX3_exchange 15 = .ok (.aload_n 0, 1) := by decide +kernel
theorem dX3_exchange_16 : decode cX3_exchange 16 = .ok (.getfield 9, 3) := by decide +kernel
theorem dX3_exchange_19 : decode cX3_exchange 19 = .ok (.iload_n 1, 1) := by decide +kernel
theorem dX3_exchange_20 : decode cX3_exchange 20 = .ok (.aload_n 0, 1) := by decide +kernel
theorem dX3_exchange_21 : decode cX3_exchange 21 = .ok (.getfield 9, 3) := by decide +kernel
theorem dX3_exchange_24 : decode cX3_exchange 24 = .ok (.iload_n 2, 1) := by decide +kernel
theorem dX3_exchange_25 : decode cX3_exchange 25 = .ok (.iaload, 1) := by decide +kernel
theorem dX3_exchange_26 : decode cX3_exchange 26 = .ok (.iastore, 1) := by decide +kernel
theorem dX3_exchange_27 : decode cX3_exchange 27 = .ok (.aload_n 0, 1) := by decide +kernel
theorem dX3_exchange_28 : decode cX3_exchange 28 = .ok (.getfield 15, 3) := by decide +kernel
theorem dX3_exchange_31 : decode cX3_exchange 31 = .ok (.iload_n 1, 1) := by decide +kernel
theorem dX3_exchange_32 : decode cX3_exchange 32 = .ok (.aload_n 0, 1) := by decide +kernel
theorem dX3_exchange_33 : decode cX3_exchange 33 = .ok (.getfield 15, 3) := by decide +kernel
theorem dX3_exchange_36 : decode cX3_exchange 36 = .ok (.iload_n 2, 1) := by decide +kernel
theorem dX3_exchange_37 : decode cX3_exchange 37 = .ok (.iaload, 1) := by decide +kernel
theorem dX3_exchange_38 : decode cX3_exchange 38 = .ok (.iastore, 1) := by decide +kernel
theorem dX3_exchange_39 : decode cX3_exchange 39 = .ok (.aload_n 0, 1) := by decide +kernel
theorem dX3_exchange_40 : decode cX3_exchange 40 = .ok (.getfield 9, 3) := by decide +kernel
theorem dX3_exchange_43 : decode cX3_exchange 43 = .ok (.iload_n 2, 1) := by decide +kernel
theorem dX3_exchange_44 : decode cX3_exchange 44 = .ok (.iload_n 3, 1) := by decide +kernel
theorem dX3_exchange_45 : decode cX3_exchange 45 = .ok (.iastore, 1) := by decide +kernel
theorem dX3_exchange_46 : decode cX3_exchange 46 = .ok (.aload_n 0, 1) := by decide +kernel
theorem dX3_exchange_47 : decode cX3_exchange 47 = .ok (.getfield 15, 3) := by decide +kernel
theorem dX3_exchange_50 : decode cX3_exchange 50 = .ok (.iload_n 2, 1) := by decide +kernel
theorem dX3_exchange_51 : decode cX3_exchange 51 = .ok (.iload 4, 2) := by decide +kernel
theorem dX3_exchange_53 : decode cX3_exchange 53 = .ok (.iastore, 1) := by decide +kernel
theorem dX3_exchange_54 : decode cX3_exchange 54 = .ok (.return_, 1) := by decide +kernel
theorem dX3_copyFrom_0 : decode cX3_copyFrom 0 = .ok (.aload_n 1, 1) := by decide +kernel
theorem dX3_copyFrom_1 : decode cX3_copyFrom 1 = .ok (.getfield 9, 3) := by decide +kernel
theorem dX3_copyFrom_4 : decode cX3_copyFrom 4 = .ok (.iconst 0, 1) := by decide +kernel
theorem dX3_copyFrom_5 : decode cX3_copyFrom 5 = .ok (.aload_n 0, 1) := by decide +kernel
theorem dX3_copyFrom_6 : decode cX3_copyFrom 6 = .ok (.getfield 9, 3) := by decide +kernel
theorem dX3_copyFrom_9 : decode cX3_copyFrom 9 = .ok (.iconst 0, 1) := by decide +kernel
theorem dX3_copyFrom_10 : decode cX3_copyFrom 10 = .ok (.bipush 8, 2) := by decide +kernel
theorem dX3_copyFrom_12 : decode cX3_copyFrom 12 = .ok (.invokestatic 34, 3) := by decide +kernel
theorem dX3_copyFrom_15 : decode cX3_copyFrom 15 = .ok (.aload_n 1, 1) := by decide +kernel
theorem dX3_copyFrom_16 : decode cX3_copyFrom 16 = .ok (.getfield 15, 3) := by decide +kernel
theorem dX3_copyFrom_19 : decode cX3_copyFrom 19 = .ok (.iconst 0, 1) := by decide +kernel
theorem dX3_copyFrom_20 : decode cX3_copyFrom 20 = .ok (.aload_n 0, 1) := by decide +kernel
theorem dX3_copyFrom_21 : decode cX3_copyFrom 21 = .ok (.getfield 15, 3) := by decide +kernel
theorem dX3_copyFrom_24 : decode cX3_copyFrom 24 = .ok (.iconst 0, 1) := by decide +kernel
theorem dX3_copyFrom_25 : decode cX3_copyFrom 25 = .ok (.bipush 8, 2) := by decide +kernel
theorem dX3_copyFrom_27 : decode cX3_copyFrom 27 = .ok (.invokestatic 34, 3) := by decide +kernel
theorem dX3_copyFrom_30 : decode cX3_copyFrom 30 = .ok (.aload_n 1, 1) := by decide +kernel
theorem dX3_copyFrom_31 : decode cX3_copyFrom 31 = .ok (.getfield 18, 3) := by decide +kernel
theorem dX3_copyFrom_34 : decode cX3_copyFrom 34 = .ok (.iconst 0, 1) := by decide +kernel
theorem dX3_copyFrom_35 : decode cX3_copyFrom 35 = .ok (.aload_n 0, 1) := by decide +kernel
theorem dX3_copyFrom_36 : decode cX3_copyFrom 36 = .ok (.getfield 18, 3) := by decide +kernel
theorem dX3_copyFrom_39 : decode cX3_copyFrom 39 = .ok (.iconst 0, 1) := by decide +kernel
theorem dX3_copyFrom_40 : decode cX3_copyFrom 40 = .ok (.bipush 8, 2) := by decide +kernel
theorem dX3_copyFrom_42 : decode cX3_copyFrom 42 = .ok (.invokestatic 34, 3) := by decide +kernel
theorem dX3_copyFrom_45 : decode cX3_copyFrom 45 = .ok (.aload_n 0, 1) := by decide +kernel
theorem dX3_copyFrom_46 : decode cX3_copyFrom 46 = .ok (.aload_n 1, 1) := by decide +kernel
theorem dX3_copyFrom_47 : decode cX3_copyFrom 47 = .ok (.getfield 27, 3) := by decide +kernel
theorem dX3_copyFrom_50 : decode cX3_copyFrom 50 = .ok (.putfield 27, 3) := by decide +kernel
theorem dX3_copyFrom_53 : decode cX3_copyFrom 53 = .ok (.return_, 1) := by decide +kernel
theorem dX4_init_0 : decode cX4_init 0 = .ok (.aload_n 0, 1) := by decide +kernel
theorem dX4_init_1 : decode cX4_init 1 = .ok (.invokespecial 3, 3) := by decide +kernel
theorem dX4_init_4 : decode cX4_init 4 = .ok (.aload_n 0, 1) := by decide +kernel
theorem dX4_init_5 : decode cX4_init 5 = .ok (.new 9, 3) := by decide +kernel
theorem dX4_init_8 : decode cX4_init 8 = .ok (.dup, 1) := by decide +kernel
theorem dX4_init_9 : decode cX4_init 9 = .ok (.invokespecial 11, 3) := by decide +kernel
theorem dX4_init_12 : decode cX4_init 12 = .ok (.putfield 12, 3) := by decide +kernel
theorem dX4_init_15 : decode cX4_init 15 = .ok (.aload_n 0, 1) := by decide +kernel
theorem dX4_init_16 : decode cX4_init 16 = .ok (.iconst 5, 1) := by decide +kernel
theorem dX4_init_17 : decode cX4_init 17 = .ok (.newarray .int, 2) := by decide +kernel
theorem dX4_init_19 : decode cX4_init 19 = .ok (.putfield 18, 3) := by decide +kernel
theorem dX4_init_22 : decode cX4_init 22 = .ok (.aload_n 0, 1) := by decide +kernel
theorem dX4_init_23 : decode cX4_init 23 = .ok (.iconst 5, 1) := by decide +kernel
theorem dX4_init_24 : decode cX4_init 24 = .ok (.newarray .int, 2) := by decide +kernel
theorem dX4_init_26 : decode cX4_init 26 = .ok (.putfield 22, 3) := by decide +kernel
theorem dX4_init_29 : decode cX4_init 29 = .ok (.aload_n 0, 1) := by decide +kernel
theorem dX4_init_30 : decode cX4_init 30 = .ok (.iconst (-1), 1) := by decide +kernel
theorem dX4_init_31 : decode cX4_init 31 = .ok (.putfield 25, 3) := by decide +kernel
theorem dX4_init_34 : decode cX4_init 34 = .ok (.aload_n 0, 1) := by decide +kernel
theorem dX4_init_35 : decode cX4_init 35 = .ok (.aload_n 1, 1) := by decide +kernel
theorem dX4_init_36 : decode cX4_init 36 = .ok (.putfield 29, 3) := by decide +kernel
theorem dX4_init_39 : decode cX4_init 39 = .ok (.return_, 1) := by decide +kernel
theorem dX4_follow_0 : decode cX4_follow 0 = .ok (.aload_n 0, 1) := by decide +kernel
theorem dX4_follow_1 : decode cX4_follow 1 = .ok (.getfield 12, 3) := by decide +kernel
theorem dX4_follow_4 : decode cX4_follow 4 = .ok (.invokevirtual 33, 3) := by decide +kernel
theorem dX4_follow_7 : decode cX4_follow 7 = .ok (.aload_n 0, 1) := by decide +kernel
theorem dX4_follow_8 : decode cX4_follow 8 = .ok (.iconst 0, 1) := by decide +kernel
theorem dX4_follow_9 : decode cX4_follow 9 = .ok (.putfield 36, 3) := by decide +kernel
theorem dX4_follow_12 : decode cX4_follow 12 = .ok (.aload_n 0, 1) := by decide +kernel
theorem dX4_follow_13 : decode cX4_follow 13 = .ok (.iconst (-1), 1) := by decide +kernel
theorem dX4_follow_14 : decode cX4_follow 14 = .ok (.putfield 25, 3) := by decide +kernel
theorem dX4_follow_17 : decode cX4_follow 17 = .ok (.aload_n 0, 1) := by decide +kernel
theorem dX4_follow_18 : decode cX4_follow 18 = .ok (.iconst 0, 1) := by decide +kernel
theorem dX4_follow_19 : decode cX4_follow 19 = .ok (.putfield 39, 3) := by decide +kernel
theorem dX4_follow_22 : decode cX4_follow 22 = .ok (.aload_n 0, 1) := by decide +kernel
theorem dX4_follow_23 : decode cX4_follow 23 = .ok (.invokevirtual 42, 3) := by decide +kernel
theorem dX4_follow_26 : decode cX4_follow 26 = .ok (.iconst 0, 1) := by decide +kernel
theorem dX4_follow_27 : decode cX4_follow 27 = .ok (.istore_n 1, 1) := by decide +kernel
theorem dX4_follow_28 : decode cX4_follow 28 = .ok (.iload_n 1, 1) := by decide +kernel
theorem dX4_follow_29 : decode cX4_follow 29 = .ok (.sipush 400, 3) := by decide +kernel
theorem dX4_follow_32 : decode cX4_follow 32 = .ok (.if_icmp .ge 28, 3) := by decide +kernel
theorem dX4_follow_35 : decode cX4_follow 35 = .ok (.aload_n 0, 1) := by decide +kernel
theorem dX4_follow_36 : decode cX4_follow 36 = .ok (.getfield 45, 3) := by decide +kernel
theorem dX4_follow_39 : decode cX4_follow 39 = .ok (.ifCond .eq 21, 3) := by decide +kernel
theorem dX4_follow_42 : decode cX4_follow 42 = .ok (.aload_n 0, 1) := by decide +kernel
theorem dX4_follow_43 : decode cX4_follow 43 = .ok (.getfield 36, 3) := by decide +kernel
theorem dX4_follow_46 : decode cX4_follow 46 = .ok (.iconst 1, 1) := by decide +kernel
theorem dX4_follow_47 : decode cX4_follow 47 = .ok (.if_icmp .eq 13, 3) := by decide +kernel
theorem dX4_follow_50 : decode cX4_follow 50 = .ok (.aload_n 0, 1) := by decide +kernel
theorem dX4_follow_51 : decode cX4_follow 51 = .ok (.invokevirtual 48, 3) := by decide +kernel
theorem dX4_follow_54 : decode cX4_follow 54 = .ok (.iinc 1 1, 3) := by decide +kernel
theorem dX4_follow_57 : decode cX4_follow 57 = .ok (.goto (-29), 3) := by decide +kernel
theorem dX4_follow_60 : decode cX4_follow 60 = .ok (.return_, 1) := by decide +kernel
theorem dX4_note_0 : decode cX4_note 0 = .ok (.aload_n 0, 1) := by decide +kernel
theorem dX4_note_1 : decode cX4_note 1 = .ok (.getfield 36, 3) := by decide +kernel
theorem dX4_note_4 : decode cX4_note 4 = .ok (.ifCond .eq 27, 3) := by decide +kernel
theorem dX4_note_7 : decode cX4_note 7 = .ok (.iload_n 2, 1) := by decide +kernel
theorem dX4_note_8 : decode cX4_note 8 = .ok (.aload_n 0, 1) := by decide +kernel
theorem dX4_note_9 : decode cX4_note 9 = .ok (.getfield 25, 3) := by decide +kernel
theorem dX4_note_12 : decode cX4_note 12 = .ok (.if_icmp .lt 19, 3) := by decide +kernel
theorem dX4_note_15 : decode cX4_note 15 = .ok (.iload_n 2, 1) := by decide +kernel
theorem dX4_note_16 : decode cX4_note 16 = .ok (.aload_n 0, 1) := by decide +kernel
theorem dX4_note_17 : decode cX4_note 17 = .ok (.getfield 25, 3) := by decide +kernel
theorem dX4_note_20 : decode cX4_note 20 = .ok (.if_icmp .ne 15, 3) := by decide +kernel
theorem dX4_note_23 : decode cX4_note 23 = .ok (.iload_n 1, 1) := by decide +kernel
theorem dX4_note_24 : decode cX4_note 24 = .ok (.aload_n 0, 1) := by decide +kernel
theorem dX4_note_25 : decode cX4_note 25 = .ok (.getfield 36, 3) := by decide +kernel
theorem dX4_note_28 : decode cX4_note 28 = .ok (.if_icmp .ge 7, 3) := by decide +kernel
theorem dX4_note_31 : decode cX4_note 31 = .ok (.iconst 1, 1) := by decide +kernel
theorem dX4_note_32 : decode cX4_note 32 = .ok (.goto 4, 3) := by decide +kernel
theorem dX4_note_35 : decode cX4_note 35 = .ok (.iconst 0, 1) := by decide +kernel
theorem dX4_note_36 : decode cX4_note 36 = .ok (.istore_n 3, 1) := by decide +kernel
theorem dX4_note_37 : decode cX4_note 37 = .ok (.iload_n 1, 1) := by decide +kernel
theorem dX4_note_38 : decode cX4_note 38 = .ok (.iconst 1, 1) := by decide +kernel
theorem dX4_note_39 : decode cX4_note 39 = .ok (.if_icmp .eq 7, 3) := by decide +kernel
theorem dX4_note_42 : decode cX4_note 42 = .ok (.iload_n 3, 1) := by decide +kernel
theorem dX4_note_43 : decode cX4_note 43 = .ok (.ifCond .eq 13, 3) := by decide +kernel
theorem dX4_note_46 : decode cX4_note 46 = .ok (.aload_n 0, 1) := by decide +kernel
theorem dX4_note_47 : decode cX4_note 47 = .ok (.iload_n 1, 1) := by decide +kernel
theorem dX4_note_48 : decode cX4_note 48 = .ok (.putfield 36, 3) := by decide +kernel
theorem dX4_note_51 : decode cX4_note 51 = .ok (.aload_n 0, 1) := by decide +kernel
theorem dX4_note_52 : decode cX4_note 52 = .ok (.iload_n 2, 1) := by decide +kernel
theorem dX4_note_53 : decode cX4_note 53 = .ok (.putfield 25, 3) := by decide +kernel
theorem dX4_note_56 : decode cX4_note 56 = .ok (.return_, 1) := by decide +kernel
theorem dX4_isBetween_0 : decode cX4_isBetween 0 = .ok (.iload_n 1, 1) := by decide +kernel
theorem dX4_isBetween_1 : decode cX4_isBetween 1 = .ok (.aload_n 0, 1) := by decide +kernel
theorem dX4_isBetween_2 : decode cX4_isBetween 2 = .ok (.getfield 29, 3) := by decide +kernel
theorem dX4_isBetween_5 : decode cX4_isBetween 5 = .ok (.getfield 51, 3) := by decide +kernel
theorem dX4_isBetween_8 : decode cX4_isBetween 8 = .ok (.if_icmp .ge 33, 3) := by decide +kernel
theorem dX4_isBetween_11 : decode cX4_isBetween 11 = .ok (.aload_n 0, 1) := by decide +kernel
theorem dX4_isBetween_12 : decode cX4_isBetween 12 = .ok (.getfield 29, 3) := by decide +kernel
theorem dX4_isBetween_15 : decode cX4_isBetween 15 = .ok (.getfield 56, 3) := by decide +kernel
theorem dX4_isBetween_18 : decode cX4_isBetween 18 = .ok (.iload_n 1, 1) := by decide +kernel
theorem dX4_isBetween_19 : decode cX4_isBetween 19 = .ok (.baload, 1) := by decide +kernel
theorem dX4_isBetween_20 : decode cX4_isBetween 20 = .ok (.iload_n 2, 1) := by decide +kernel
theorem dX4_isBetween_21 : decode cX4_isBetween 21 = .ok (.if_icmp .lt 20, 3) := by decide +kernel
theorem dX4_isBetween_24 : decode cX4_isBetween 24 = .ok (.aload_n 0, 1) := by decide +kernel
theorem dX4_isBetween_25 : decode cX4_isBetween 25 = .ok (.getfield 29, 3) := by decide +kernel
theorem dX4_isBetween_28 : decode cX4_isBetween 28 = .ok (.getfield 56, 3) := by decide +kernel
theorem dX4_isBetween_31 : decode cX4_isBetween 31 = .ok (.iload_n 1, 1) := by decide +kernel
theorem dX4_isBetween_32 : decode cX4_isBetween 32 = .ok (.baload, 1) := by decide +kernel
theorem dX4_isBetween_33 : decode cX4_isBetween 33 = .ok (.iload_n 3, 1) := by decide +kernel
theorem dX4_isBetween_34 : decode cX4_isBetween 34 = .ok (.if_icmp .gt 7, 3) := by decide +kernel
theorem dX4_isBetween_37 : decode cX4_isBetween 37 = .ok (.iconst 1, 1) := by decide +kernel
theorem dX4_isBetween_38 : decode cX4_isBetween 38 = .ok (.goto 4, 3) := by decide +kernel
theorem dX4_isBetween_41 : decode cX4_isBetween 41 = .ok (.iconst 0, 1) := by decide +kernel
theorem dX4_isBetween_42 : decode cX4_isBetween 42 = .ok (.ireturn, 1) := by decide +kernel
theorem dX4_isBlank_0 : decode cX4_isBlank 0 = .ok (.aload_n 0, 1) := by decide +kernel
theorem dX4_isBlank_1 : decode cX4_isBlank 1 = .ok (.iload_n 1, 1) := by decide +kernel
theorem dX4_isBlank_2 : decode cX4_isBlank 2 = .ok (.bipush 32, 2) := by decide +kernel
theorem dX4_isBlank_4 : decode cX4_isBlank 4 = .ok (.bipush 32, 2) := by decide +kernel
theorem dX4_isBlank_6 : decode cX4_isBlank 6 = .ok (.invokevirtual 60, 3) := by decide +kernel
theorem dX4_isBlank_9 : decode cX4_isBlank 9 = .ok (.ifCond .ne 15, 3) := by decide +kernel
theorem dX4_isBlank_12 : decode cX4_isBlank 12 = .ok (.aload_n 0, 1) := by decide +kernel
theorem dX4_isBlank_13 : decode cX4_isBlank 13 = .ok (.iload_n 1, 1) := by decide +kernel
theorem dX4_isBlank_14 : decode cX4_isBlank 14 = .ok (.bipush 10, 2) := by decide +kernel
theorem dX4_isBlank_16 : decode cX4_isBlank 16 = .ok (.bipush 10, 2) := by decide +kernel
theorem dX4_isBlank_18 : decode cX4_isBlank 18 = .ok (.invokevirtual 60, 3) := by decide +kernel
theorem dX4_isBlank_21 : decode cX4_isBlank 21 = .ok (.ifCond .eq 7, 3) := by decide +kernel
theorem dX4_isBlank_24 : decode cX4_isBlank 24 = .ok (.iconst 1, 1) := by decide +kernel
theorem dX4_isBlank_25 : decode cX4_isBlank 25 = .ok (.goto 4, 3) := by decide +kernel
theorem dX4_isBlank_28 : decode cX4_isBlank 28 = .ok (.iconst 0, 1) := by decide +kernel
theorem dX4_isBlank_29 : decode cX4_isBlank 29 = .ok (.ireturn, 1) := by decide +kernel
theorem dX4_advance_0 : decode cX4_advance 0 = .ok (.aload_n 0, 1) := by decide +kernel
theorem dX4_advance_1 : decode cX4_advance 1 = .ok (.getfield 39, 3) := by decide +kernel
theorem dX4_advance_4 : decode cX4_advance 4 = .ok (.aload_n 0, 1) := by decide +kernel
theorem dX4_advance_5 : decode cX4_advance 5 = .ok (.getfield 29, 3) := by decide +kernel
theorem dX4_advance_8 : decode cX4_advance 8 = .ok (.getfield 51, 3) := by decide +kernel
theorem dX4_advance_11 : decode cX4_advance 11 = .ok (.if_icmp .ge 27, 3) := by decide +kernel
theorem dX4_advance_14 : decode cX4_advance 14 = .ok (.aload_n 0, 1) := by decide +kernel
theorem dX4_advance_15 : decode cX4_advance 15 = .ok (.aload_n 0, 1) := by decide +kernel
theorem dX4_advance_16 : decode cX4_advance 16 = .ok (.getfield 39, 3) := by decide +kernel
theorem dX4_advance_19 : decode cX4_advance 19 = .ok (.invokevirtual 64, 3) := by decide +kernel
theorem dX4_advance_22 : decode cX4_advance 22 = .ok (.ifCond .eq 16, 3) := by decide +kernel
theorem dX4_advance_25 : decode cX4_advance 25 = .ok (.aload_n 0, 1) := by decide +kernel
theorem dX4_advance_26 : decode cX4_advance 26 = .ok (.dup, 1) := by decide +kernel
theorem dX4_advance_27 : decode cX4_advance 27 = .ok (.getfield 39, 3) := by decide +kernel
theorem dX4_advance_30 : decode cX4_advance 30 = .ok (.iconst 1, 1) := by decide +kernel
theorem dX4_advance_31 : decode cX4_advance 31 = .ok (.iadd, 1) := by decide +kernel
theorem dX4_advance_32 : decode cX4_advance 32 = .ok (.putfield 39, 3) := by decide +kernel
theorem dX4_advance_35 : decode cX4_advance 35 = .ok (.goto (-35), 3) := by decide +kernel
theorem dX4_advance_38 : decode cX4_advance 38 = .ok (.aload_n 0, 1) := by decide +kernel
theorem dX4_advance_39 : decode cX4_advance 39 = .ok (.aload_n 0, 1) := by decide +kernel
theorem dX4_advance_40 : decode cX4_advance 40 = .ok (.getfield 39, 3) := by decide +kernel
theorem dX4_advance_43 : decode cX4_advance 43 = .ok (.putfield 68, 3) := by decide +kernel
theorem dX4_advance_46 : decode cX4_advance 46 = .ok (.aload_n 0, 1) := by decide +kernel
theorem dX4_advance_47 : decode cX4_advance 47 = .ok (.getfield 39, 3) := by decide +kernel
theorem dX4_advance_50 : decode cX4_advance 50 = .ok (.aload_n 0, 1) := by decide +kernel
theorem dX4_advance_51 : decode cX4_advance 51 = .ok (.getfield 29, 3) := by decide +kernel
theorem dX4_advance_54 : decode cX4_advance 54 = .ok (.getfield 51, 3) := by decide +kernel
theorem dX4_advance_57 : decode cX4_advance 57 = .ok (.if_icmp .lt 11, 3) := by decide +kernel
theorem dX4_advance_60 : decode cX4_advance 60 = .ok (.aload_n 0, 1) := by decide +kernel
theorem dX4_advance_61 : decode cX4_advance 61 = .ok (.iconst 0, 1) := by decide +kernel
theorem dX4_advance_62 : decode cX4_advance 62 = .ok (.putfield 45, 3) := by decide +kernel
theorem dX4_advance_65 : decode cX4_advance 65 = .ok (.goto 136, 3) := by decide +kernel
theorem dX4_advance_68 : decode cX4_advance 68 = .ok (.aload_n 0, 1) := by decide +kernel
theorem dX4_advance_69 : decode cX4_advance 69 = .ok (.aload_n 0, 1) := by decide +kernel
theorem dX4_advance_70 : decode cX4_advance 70 = .ok (.getfield 39, 3) := by decide +kernel
theorem dX4_advance_73 : decode cX4_advance 73 = .ok (.bipush 97, 2) := by decide +kernel
theorem dX4_advance_75 : decode cX4_advance 75 = .ok (.bipush 122, 2) := by decide +kernel
theorem dX4_advance_77 : decode cX4_advance 77 = .ok (.invokevirtual 60, 3) := by decide +kernel
theorem dX4_advance_80 : decode cX4_advance 80 = .ok (.ifCond .eq 19, 3) := by decide +kernel
theorem dX4_advance_83 : decode cX4_advance 83 = .ok (.aload_n 0, 1) := by decide +kernel
theorem dX4_advance_84 : decode cX4_advance 84 = .ok (.iconst 1, 1) := by decide +kernel
theorem dX4_advance_85 : decode cX4_advance 85 = .ok (.putfield 45, 3) := by decide +kernel
theorem dX4_advance_88 : decode cX4_advance 88 = .ok (.aload_n 0, 1) := by decide +kernel
theorem dX4_advance_89 : decode cX4_advance 89 = .ok (.bipush 97, 2) := by decide +kernel
theorem dX4_advance_91 : decode cX4_advance 91 = .ok (.bipush 122, 2) := by decide +kernel
theorem dX4_advance_93 : decode cX4_advance 93 = .ok (.invokevirtual 71, 3) := by decide +kernel
theorem dX4_advance_96 : decode cX4_advance 96 = .ok (.goto 105, 3) := by decide +kernel
theorem dX4_advance_99 : decode cX4_advance 99 = .ok (.aload_n 0, 1) := by decide +kernel
theorem dX4_advance_100 : decode cX4_advance 100 = .ok (.aload_n 0, 1) := by decide +kernel
theorem dX4_advance_101 : decode cX4_advance 101 = .ok (.getfield 39, 3) := by decide +kernel
theorem dX4_advance_104 : decode cX4_advance 104 = .ok (.bipush 48, 2) := by decide +kernel
theorem dX4_advance_106 : decode cX4_advance 106 = .ok (.bipush 57, 2) := by decide +kernel
theorem dX4_advance_108 : decode cX4_advance 108 = .ok (.invokevirtual 60, 3) := by decide +kernel
theorem dX4_advance_111 : decode cX4_advance 111 = .ok (.ifCond .eq 56, 3) := by decide +kernel
theorem dX4_advance_114 : decode cX4_advance 114 = .ok (.aload_n 0, 1) := by decide +kernel
theorem dX4_advance_115 : decode cX4_advance 115 = .ok (.bipush 48, 2) := by decide +kernel
theorem dX4_advance_117 : decode cX4_advance 117 = .ok (.bipush 57, 2) := by decide +kernel
theorem dX4_advance_119 : decode cX4_advance 119 = .ok (.invokevirtual 71, 3) := by decide +kernel
theorem dX4_advance_122 : decode cX4_advance 122 = .ok (.aload_n 0, 1) := by decide +kernel
theorem dX4_advance_123 : decode cX4_advance 123 = .ok (.aload_n 0, 1) := by decide +kernel
theorem dX4_advance_124 : decode cX4_advance 124 = .ok (.getfield 39, 3) := by decide +kernel
theorem dX4_advance_127 : decode cX4_advance 127 = .ok (.aload_n 0, 1) := by decide +kernel
theorem dX4_advance_128 : decode cX4_advance 128 = .ok (.getfield 68, 3) := by decide +kernel
theorem dX4_advance_131 : decode cX4_advance 131 = .ok (.isub, 1) := by decide +kernel
theorem dX4_advance_132 : decode cX4_advance 132 = .ok (.iconst 3, 1) := by decide +kernel
theorem dX4_advance_133 : decode cX4_advance 133 = .ok (.if_icmp .gt 7, 3) := by decide +kernel
theorem dX4_advance_136 : decode cX4_advance 136 = .ok (.iconst 2, 1) := by decide +kernel
theorem dX4_advance_137 : decode cX4_advance 137 = .ok (.goto 4, 3) := by decide +kernel
theorem dX4_advance_140 : decode cX4_advance 140 = .ok (.iconst 4, 1) := by decide +kernel
theorem dX4_advance_141 : decode cX4_advance 141 = .ok (.putfield 45, 3) := by decide +kernel
theorem dX4_advance_144 : decode cX4_advance 144 = .ok (.aload_n 0, 1) := by decide +kernel
theorem dX4_advance_145 : decode cX4_advance 145 = .ok (.aload_n 0, 1) := by decide +kernel
theorem dX4_advance_146 : decode cX4_advance 146 = .ok (.getfield 45, 3) := by decide +kernel
theorem dX4_advance_149 : decode cX4_advance 149 = .ok (.iconst 2, 1) := by decide +kernel
theorem dX4_advance_150 : decode cX4_advance 150 = .ok (.if_icmp .ne 10, 3) := by decide +kernel
theorem dX4_advance_153 : decode cX4_advance 153 = .ok (.aload_n 0, 1) := by decide +kernel
theorem dX4_advance_154 : decode cX4_advance 154 = .ok (.invokevirtual 75, 3) := by decide +kernel
theorem dX4_advance_157 : decode cX4_advance 157 = .ok (.goto 4, 3) := by decide +kernel
theorem dX4_advance_160 : decode cX4_advance 160 = .ok (.iconst 0, 1) := by decide +kernel
theorem dX4_advance_161 : decode cX4_advance 161 = .ok (.putfield 79, 3) := by decide +kernel
theorem dX4_advance_164 : decode cX4_advance 164 = .ok (.goto 37, 3) := by decide +kernel
theorem dX4_advance_167 : decode cX4_advance 167 = .ok (.aload_n 0, 1) := by decide +kernel
theorem dX4_advance_168 : decode cX4_advance 168 = .ok (.aload_n 0, 1) := by decide +kernel
theorem dX4_advance_169 : decode cX4_advance 169 = .ok (.aload_n 0, 1) := by decide +kernel
theorem dX4_advance_170 : decode cX4_advance 170 = .ok (.getfield 39, 3) := by decide +kernel
theorem dX4_advance_173 : decode cX4_advance 173 = .ok (.bipush 59, 2) := by decide +kernel
theorem dX4_advance_175 : decode cX4_advance 175 = .ok (.bipush 59, 2) := by decide +kernel
theorem dX4_advance_177 : decode cX4_advance 177 = .ok (.invokevirtual 60, 3) := by decide +kernel
theorem dX4_advance_180 : decode cX4_advance 180 = .ok (.ifCond .eq 7, 3) := by decide +kernel
theorem dX4_advance_183 : decode cX4_advance 183 = .ok (.iconst 3, 1) := by decide +kernel
theorem dX4_advance_184 : decode cX4_advance 184 = .ok (.goto 4, 3) := by decide +kernel
theorem dX4_advance_187 : decode cX4_advance 187 = .ok (.iconst 4, 1) := by decide +kernel
theorem dX4_advance_188 : decode cX4_advance 188 = .ok (.putfield 45, 3) := by decide +kernel
theorem dX4_advance_191 : decode cX4_advance 191 = .ok (.aload_n 0, 1) := by decide +kernel
theorem dX4_advance_192 : decode cX4_advance 192 = .ok (.dup, 1) := by decide +kernel
theorem dX4_advance_193 : decode cX4_advance 193 = .ok (.getfield 39, 3) := by decide +kernel
theorem dX4_advance_196 : decode cX4_advance 196 = .ok (.iconst 1, 1) := by decide +kernel
theorem dX4_advance_197 : decode cX4_advance 197 = .ok (.iadd, 1) := by decide +kernel
theorem dX4_advance_198 : decode cX4_advance 198 = .ok (.putfield 39, 3) := by decide +kernel
theorem dX4_advance_201 : decode cX4_advance 201 = .ok (.return_, 1) := by decide +kernel
theorem dX4_passAll_0 : decode cX4_passAll 0 = .ok (.aload_n 0, 1) := by decide +kernel
theorem dX4_passAll_1 : decode cX4_passAll 1 = .ok (.getfield 39, 3) := by decide +kernel
theorem dX4_passAll_4 : decode cX4_passAll 4 = .ok (.aload_n 0, 1) := by decide +kernel
theorem dX4_passAll_5 : decode cX4_passAll 5 = .ok (.getfield 29, 3) := by decide +kernel
theorem dX4_passAll_8 : decode cX4_passAll 8 = .ok (.getfield 51, 3) := by decide +kernel
theorem dX4_passAll_11 : decode cX4_passAll 11 = .ok (.if_icmp .ge 29, 3) := by decide +kernel
theorem dX4_passAll_14 : decode cX4_passAll 14 = .ok (.aload_n 0, 1) := by decide +kernel
theorem dX4_passAll_15 : decode cX4_passAll 15 = .ok (.aload_n 0, 1) := by decide +kernel
theorem dX4_passAll_16 : decode cX4_passAll 16 = .ok (.getfield 39, 3) := by decide +kernel
theorem dX4_passAll_19 : decode cX4_passAll 19 = .ok (.iload_n 1, 1) := by decide +kernel
theorem dX4_passAll_20 : decode cX4_passAll 20 = .ok (.iload_n 2, 1) := by decide +kernel
theorem dX4_passAll_21 : decode cX4_passAll 21 = .ok (.invokevirtual 60, 3) := by decide +kernel
theorem dX4_passAll_24 : decode cX4_passAll 24 = .ok (.ifCond .eq 16, 3) := by decide +kernel
theorem dX4_passAll_27 : decode cX4_passAll 27 = .ok (.aload_n 0, 1) := by decide +kernel
theorem dX4_passAll_28 : decode cX4_passAll 28 = .ok (.dup, 1) := by decide +kernel
theorem dX4_passAll_29 : decode cX4_passAll 29 = .ok (.getfield 39, 3) := by decide +kernel
theorem dX4_passAll_32 : decode cX4_passAll 32 = .ok (.iconst 1, 1) := by decide +kernel
theorem dX4_passAll_33 : decode cX4_passAll 33 = .ok (.iadd, 1) := by decide +kernel
theorem dX4_passAll_34 : decode cX4_passAll 34 = .ok (.putfield 39, 3) := by decide +kernel
theorem dX4_passAll_37 : decode cX4_passAll 37 = .ok (.goto (-37), 3) := by decide +kernel
theorem dX4_passAll_40 : decode cX4_passAll 40 = .ok (.return_, 1) := by decide +kernel
theorem dX4_numberRead_0 : decode cX4_numberRead 0 = .ok (.iconst 0, 1) := by decide +kernel
theorem dX4_numberRead_1 : decode cX4_numberRead 1 = .ok (.istore_n 1, 1) := by decide +kernel
theorem dX4_numberRead_2 : decode cX4_numberRead 2 = .ok (.aload_n 0, 1) := by decide +kernel
theorem dX4_numberRead_3 : decode cX4_numberRead 3 = .ok (.getfield 68, 3) := by decide +kernel
theorem dX4_numberRead_6 : decode cX4_numberRead 6 = .ok (.istore_n 2, 1) := by decide +kernel
theorem dX4_numberRead_7 : decode cX4_numberRead 7 = .ok (.iload_n 2, 1) := by decide +kernel
theorem dX4_numberRead_8 : decode cX4_numberRead 8 = .ok (.aload_n 0, 1) := by decide +kernel
theorem dX4_numberRead_9 : decode cX4_numberRead 9 = .ok (.getfield 39, 3) := by decide +kernel
theorem dX4_numberRead_12 : decode cX4_numberRead 12 = .ok (.if_icmp .ge 34, 3) := by decide +kernel
theorem dX4_numberRead_15 : decode cX4_numberRead 15 = .ok (.iload_n 2, 1) := by decide +kernel
theorem dX4_numberRead_16 : decode cX4_numberRead 16 = .ok (.sipush 400, 3) := by decide +kernel
theorem dX4_numberRead_19 : decode cX4_numberRead 19 = .ok (.if_icmp .ge 27, 3) := by decide +kernel
theorem dX4_numberRead_22 : decode cX4_numberRead 22 = .ok (.iload_n 1, 1) := by decide +kernel
theorem dX4_numberRead_23 : decode cX4_numberRead 23 = .ok (.bipush 10, 2) := by decide +kernel
theorem dX4_numberRead_25 : decode cX4_numberRead 25 = .ok (.imul, 1) := by decide +kernel
theorem dX4_numberRead_26 : decode cX4_numberRead 26 = .ok (.aload_n 0, 1) := by decide +kernel
theorem dX4_numberRead_27 : decode cX4_numberRead 27 = .ok (.getfield 29, 3) := by decide +kernel
theorem dX4_numberRead_30 : decode cX4_numberRead 30 = .ok (.getfield 56, 3) := by decide +kernel
theorem dX4_numberRead_33 : decode cX4_numberRead 33 = .ok (.iload_n 2, 1) := by decide +kernel
theorem dX4_numberRead_34 : decode cX4_numberRead 34 = .ok (.baload, 1) := by decide +kernel
theorem dX4_numberRead_35 : decode cX4_numberRead 35 = .ok (.iadd, 1) := by decide +kernel
theorem dX4_numberRead_36 : decode cX4_numberRead 36 = .ok (.bipush 48, 2) := by decide +kernel
theorem dX4_numberRead_38 : decode cX4_numberRead 38 = .ok (.isub, 1) := by decide +kernel
theorem dX4_numberRead_39 : decode cX4_numberRead 39 = .ok (.istore_n 1, 1) := by decide +kernel
theorem dX4_numberRead_40 : decode cX4_numberRead 40 = .ok (.iinc 2 1, 3) := by decide +kernel
theorem dX4_numberRead_43 : decode cX4_numberRead 43 = .ok (.goto (-36), 3) := by decide +kernel
theorem dX4_numberRead_46 : decode cX4_numberRead 46 = .ok (.iload_n 1, 1) := by decide +kernel
theorem dX4_numberRead_47 : decode cX4_numberRead 47 = .ok (.ireturn, 1) := by decide +kernel
theorem dX4_takesWord_0 : decode cX4_takesWord 0 = .ok (.aload_n 0, 1) := by decide +kernel
theorem dX4_takesWord_1 : decode cX4_takesWord 1 = .ok (.getfield 45, 3) := by decide +kernel
theorem dX4_takesWord_4 : decode cX4_takesWord 4 = .ok (.iconst 1, 1) := by decide +kernel
theorem dX4_takesWord_5 : decode cX4_takesWord 5 = .ok (.if_icmp .ne 19, 3) := by decide +kernel
theorem dX4_takesWord_8 : decode cX4_takesWord 8 = .ok (.aload_n 0, 1) := by decide +kernel
theorem dX4_takesWord_9 : decode cX4_takesWord 9 = .ok (.getfield 39, 3) := by decide +kernel
theorem dX4_takesWord_12 : decode cX4_takesWord 12 = .ok (.aload_n 0, 1) := by decide +kernel
theorem dX4_takesWord_13 : decode cX4_takesWord 13 = .ok (.getfield 68, 3) := by decide +kernel
theorem dX4_takesWord_16 : decode cX4_takesWord 16 = .ok (.isub, 1) := by decide +kernel
theorem dX4_takesWord_17 : decode cX4_takesWord 17 = .ok (.aload_n 1, 1) := by decide +kernel
theorem dX4_takesWord_18 : decode cX4_takesWord 18 = .ok (.invokevirtual 82, 3) := by decide +kernel
theorem dX4_takesWord_21 : decode cX4_takesWord 21 = .ok (.if_icmp .eq 5, 3) := by decide +kernel
theorem dX4_takesWord_24 : decode cX4_takesWord 24 = .ok (.iconst 0, 1) := by decide +kernel
theorem dX4_takesWord_25 : decode cX4_takesWord 25 = .ok (.ireturn, 1) := by decide +kernel
theorem dX4_takesWord_26 : decode cX4_takesWord 26 = .ok (.iconst 0, 1) := by decide +kernel
theorem dX4_takesWord_27 : decode cX4_takesWord 27 = .ok (.istore_n 2, 1) := by decide +kernel
theorem dX4_takesWord_28 : decode cX4_takesWord 28 = .ok (.iload_n 2, 1) := by decide +kernel
theorem dX4_takesWord_29 : decode cX4_takesWord 29 = .ok (.aload_n 1, 1) := by decide +kernel
theorem dX4_takesWord_30 : decode cX4_takesWord 30 = .ok (.invokevirtual 82, 3) := by decide +kernel
theorem dX4_takesWord_33 : decode cX4_takesWord 33 = .ok (.if_icmp .ge 34, 3) := by decide +kernel
theorem dX4_takesWord_36 : decode cX4_takesWord 36 = .ok (.aload_n 0, 1) := by decide +kernel
theorem dX4_takesWord_37 : decode cX4_takesWord 37 = .ok (.aload_n 0, 1) := by decide +kernel
theorem dX4_takesWord_38 : decode cX4_takesWord 38 = .ok (.getfield 68, 3) := by decide +kernel
theorem dX4_takesWord_41 : decode cX4_takesWord 41 = .ok (.iload_n 2, 1) := by decide +kernel
theorem dX4_takesWord_42 : decode cX4_takesWord 42 = .ok (.iadd, 1) := by decide +kernel
theorem dX4_takesWord_43 : decode cX4_takesWord 43 = .ok (.aload_n 1, 1) := by decide +kernel
theorem dX4_takesWord_44 : decode cX4_takesWord 44 = .ok (.iload_n 2, 1) := by decide +kernel
theorem dX4_takesWord_45 : decode cX4_takesWord 45 = .ok (.invokevirtual 86, 3) := by decide +kernel
theorem dX4_takesWord_48 : decode cX4_takesWord 48 = .ok (.aload_n 1, 1) := by decide +kernel
theorem dX4_takesWord_49 : decode cX4_takesWord 49 = .ok (.iload_n 2, 1) := by decide +kernel
theorem dX4_takesWord_50 : decode cX4_takesWord 50 = .ok (.invokevirtual 86, 3) := by decide +kernel
theorem dX4_takesWord_53 : decode cX4_takesWord 53 = .ok (.invokevirtual 60, 3) := by decide +kernel
theorem dX4_takesWord_56 : decode cX4_takesWord 56 = .ok (.ifCond .ne 5, 3) := by decide +kernel
theorem dX4_takesWord_59 : decode cX4_takesWord 59 = .ok (.iconst 0, 1) := by decide +kernel
theorem dX4_takesWord_60 : decode cX4_takesWord 60 = .ok (.ireturn, 1) := by decide +kernel
theorem dX4_takesWord_61 : decode cX4_takesWord 61 = .ok (.iinc 2 1, 3) := by decide +kernel
theorem dX4_takesWord_64 : decode cX4_takesWord 64 = .ok (.goto (-36), 3) := by decide +kernel
theorem dX4_takesWord_67 : decode cX4_takesWord 67 = .ok (.aload_n 0, 1) := by decide +kernel
theorem dX4_takesWord_68 : decode cX4_takesWord 68 = .ok (.invokevirtual 42, 3) := by decide +kernel
theorem dX4_takesWord_71 : decode cX4_takesWord 71 = .ok (.iconst 1, 1) := by decide +kernel
theorem dX4_takesWord_72 : decode cX4_takesWord 72 = .ok (.ireturn, 1) := by decide +kernel
theorem dX4_takesNumbers_0 : decode cX4_takesNumbers 0 = .ok (.iconst 0, 1) := by decide +kernel
theorem dX4_takesNumbers_1 : decode cX4_takesNumbers 1 = .ok (.istore_n 2, 1) := by decide +kernel
theorem dX4_takesNumbers_2 : decode cX4_takesNumbers 2 = .ok (.iload_n 2, 1) := by decide +kernel
theorem dX4_takesNumbers_3 : decode cX4_takesNumbers 3 = .ok (.iload_n 1, 1) := by decide +kernel
theorem dX4_takesNumbers_4 : decode cX4_takesNumbers 4 = .ok (.if_icmp .ge 57, 3) := by decide +kernel
theorem dX4_takesNumbers_7 : decode cX4_takesNumbers 7 = .ok (.iload_n 2, 1) := by decide +kernel
theorem dX4_takesNumbers_8 : decode cX4_takesNumbers 8 = .ok (.iconst 5, 1) := by decide +kernel
theorem dX4_takesNumbers_9 : decode cX4_takesNumbers 9 = .ok (.if_icmp .ge 52, 3) := by decide +kernel
theorem dX4_takesNumbers_12 : decode cX4_takesNumbers 12 = .ok (.aload_n 0, 1) := by decide +kernel
theorem dX4_takesNumbers_13 : decode cX4_takesNumbers 13 = .ok (.getfield 45, 3) := by decide +kernel
theorem dX4_takesNumbers_16 : decode cX4_takesNumbers 16 = .ok (.iconst 2, 1) := by decide +kernel
theorem dX4_takesNumbers_17 : decode cX4_takesNumbers 17 = .ok (.if_icmp .eq 14, 3) := by decide +kernel
theorem dX4_takesNumbers_20 : decode cX4_takesNumbers 20 = .ok (.aload_n 0, 1) := by decide +kernel
theorem dX4_takesNumbers_21 : decode cX4_takesNumbers 21 = .ok (.iconst 1, 1) := by decide +kernel
theorem dX4_takesNumbers_22 : decode cX4_takesNumbers 22 = .ok (.aload_n 0, 1) := by decide +kernel
theorem dX4_takesNumbers_23 : decode cX4_takesNumbers 23 = .ok (.getfield 68, 3) := by decide +kernel
theorem dX4_takesNumbers_26 : decode cX4_takesNumbers 26 = .ok (.invokevirtual 90, 3) := by decide +kernel
theorem dX4_takesNumbers_29 : decode cX4_takesNumbers 29 = .ok (.iconst 0, 1) := by decide +kernel
theorem dX4_takesNumbers_30 : decode cX4_takesNumbers 30 = .ok (.ireturn, 1) := by decide +kernel
theorem dX4_takesNumbers_31 : decode cX4_takesNumbers 31 = .ok (.aload_n 0, 1) := by decide +kernel
theorem dX4_takesNumbers_32 : decode cX4_takesNumbers 32 = .ok (.getfield 18, 3) := by decide +kernel
theorem dX4_takesNumbers_35 : decode cX4_takesNumbers 35 = .ok (.iload_n 2, 1) := by decide +kernel
theorem dX4_takesNumbers_36 : decode cX4_takesNumbers 36 = .ok (.aload_n 0, 1) := by decide +kernel
theorem dX4_takesNumbers_37 : decode cX4_takesNumbers 37 = .ok (.getfield 79, 3) := by decide +kernel
theorem dX4_takesNumbers_40 : decode cX4_takesNumbers 40 = .ok (.iastore, 1) := by decide +kernel
theorem dX4_takesNumbers_41 : decode cX4_takesNumbers 41 = .ok (.aload_n 0, 1) := by decide +kernel
theorem dX4_takesNumbers_42 : decode cX4_takesNumbers 42 = .ok (.getfield 22, 3) := by decide +kernel
theorem dX4_takesNumbers_45 : decode cX4_takesNumbers 45 = .ok (.iload_n 2, 1) := by decide +kernel
theorem dX4_takesNumbers_46 : decode cX4_takesNumbers 46 = .ok (.aload_n 0, 1) := by decide +kernel
theorem dX4_takesNumbers_47 : decode cX4_takesNumbers 47 = .ok (.getfield 68, 3) := by decide +kernel
theorem dX4_takesNumbers_50 : decode cX4_takesNumbers 50 = .ok (.iastore, 1) := by decide +kernel
theorem dX4_takesNumbers_51 : decode cX4_takesNumbers 51 = .ok (.aload_n 0, 1) := by decide +kernel
theorem dX4_takesNumbers_52 : decode cX4_takesNumbers 52 = .ok (.invokevirtual 42, 3) := by decide +kernel
theorem dX4_takesNumbers_55 : decode cX4_takesNumbers 55 = .ok (.iinc 2 1, 3) := by decide +kernel
theorem dX4_takesNumbers_58 : decode cX4_takesNumbers 58 = .ok (.goto (-56), 3) := by decide +kernel
theorem dX4_takesNumbers_61 : decode cX4_takesNumbers 61 = .ok (.aload_n 0, 1) := by decide +kernel
theorem dX4_takesNumbers_62 : decode cX4_takesNumbers 62 = .ok (.getfield 45, 3) := by decide +kernel
theorem dX4_takesNumbers_65 : decode cX4_takesNumbers 65 = .ok (.iconst 3, 1) := by decide +kernel
theorem dX4_takesNumbers_66 : decode cX4_takesNumbers 66 = .ok (.if_icmp .eq 14, 3) := by decide +kernel
theorem dX4_takesNumbers_69 : decode cX4_takesNumbers 69 = .ok (.aload_n 0, 1) := by decide +kernel
theorem dX4_takesNumbers_70 : decode cX4_takesNumbers 70 = .ok (.iconst 1, 1) := by decide +kernel
theorem dX4_takesNumbers_71 : decode cX4_takesNumbers 71 = .ok (.aload_n 0, 1) := by decide +kernel
theorem dX4_takesNumbers_72 : decode cX4_takesNumbers 72 = .ok (.getfield 68, 3) := by decide +kernel
theorem dX4_takesNumbers_75 : decode cX4_takesNumbers 75 = .ok (.invokevirtual 90, 3) := by decide +kernel
theorem dX4_takesNumbers_78 : decode cX4_takesNumbers 78 = .ok (.iconst 0, 1) := by decide +kernel
theorem dX4_takesNumbers_79 : decode cX4_takesNumbers 79 = .ok (.ireturn, 1) := by decide +kernel
theorem dX4_takesNumbers_80 : decode cX4_takesNumbers 80 = .ok (.aload_n 0, 1) := by decide +kernel
theorem dX4_takesNumbers_81 : decode cX4_takesNumbers 81 = .ok (.invokevirtual 42, 3) := by decide +kernel
theorem dX4_takesNumbers_84 : decode cX4_takesNumbers 84 = .ok (.iconst 1, 1) := by decide +kernel
theorem dX4_takesNumbers_85 : decode cX4_takesNumbers 85 = .ok (.ireturn, 1) := by decide +kernel
theorem dX4_checkNumber_0 : decode cX4_checkNumber 0 = .ok (.aload_n 0, 1) := by decide +kernel
theorem dX4_checkNumber_1 : decode cX4_checkNumber 1 = .ok (.getfield 18, 3) := by decide +kernel
theorem dX4_checkNumber_4 : decode cX4_checkNumber 4 = .ok (.iload_n 1, 1) := by decide +kernel
theorem dX4_checkNumber_5 : decode cX4_checkNumber 5 = .ok (.iaload, 1) := by decide +kernel
theorem dX4_checkNumber_6 : decode cX4_checkNumber 6 = .ok (.iload_n 2, 1) := by decide +kernel
theorem dX4_checkNumber_7 : decode cX4_checkNumber 7 = .ok (.if_icmp .lt 13, 3) := by decide +kernel
theorem dX4_checkNumber_10 : decode cX4_checkNumber 10 = .ok (.aload_n 0, 1) := by decide +kernel
theorem dX4_checkNumber_11 : decode cX4_checkNumber 11 = .ok (.getfield 18, 3) := by decide +kernel
theorem dX4_checkNumber_14 : decode cX4_checkNumber 14 = .ok (.iload_n 1, 1) := by decide +kernel
theorem dX4_checkNumber_15 : decode cX4_checkNumber 15 = .ok (.iaload, 1) := by decide +kernel
theorem dX4_checkNumber_16 : decode cX4_checkNumber 16 = .ok (.iload_n 3, 1) := by decide +kernel
theorem dX4_checkNumber_17 : decode cX4_checkNumber 17 = .ok (.if_icmp .le 14, 3) := by decide +kernel
theorem dX4_checkNumber_20 : decode cX4_checkNumber 20 = .ok (.aload_n 0, 1) := by decide +kernel
theorem dX4_checkNumber_21 : decode cX4_checkNumber 21 = .ok (.iconst 2, 1) := by decide +kernel
theorem dX4_checkNumber_22 : decode cX4_checkNumber 22 = .ok (.aload_n 0, 1) := by decide +kernel
theorem dX4_checkNumber_23 : decode cX4_checkNumber 23 = .ok (.getfield 22, 3) := by decide +kernel
theorem dX4_checkNumber_26 : decode cX4_checkNumber 26 = .ok (.iload_n 1, 1) := by decide +kernel
theorem dX4_checkNumber_27 : decode cX4_checkNumber 27 = .ok (.iaload, 1) := by decide +kernel
theorem dX4_checkNumber_28 : decode cX4_checkNumber 28 = .ok (.invokevirtual 90, 3) := by decide +kernel
theorem dX4_checkNumber_31 : decode cX4_checkNumber 31 = .ok (.return_, 1) := by decide +kernel
theorem dX4_readStatement_0 : decode cX4_readStatement 0 = .ok (.aload_n 0, 1) := by decide +kernel
theorem dX4_readStatement_1 : decode cX4_readStatement 1 = .ok (.getfield 68, 3) := by decide +kernel
theorem dX4_readStatement_4 : decode cX4_readStatement 4 = .ok (.istore_n 1, 1) := by decide +kernel
theorem dX4_readStatement_5 : decode cX4_readStatement 5 = .ok (.aload_n 0, 1) := by decide +kernel
theorem dX4_readStatement_6 : decode cX4_readStatement 6 = .ok (.ldc 93, 2) := by decide +kernel
theorem dX4_readStatement_8 : decode cX4_readStatement 8 = .ok (.invokevirtual 95, 3) := by decide +kernel
theorem dX4_readStatement_11 : decode cX4_readStatement 11 = .ok (.ifCond .eq 11, 3) := by decide +kernel
theorem dX4_readStatement_14 : decode cX4_readStatement 14 = .ok (.aload_n 0, 1) := by decide +kernel
theorem dX4_readStatement_15 : decode cX4_readStatement 15 = .ok (.iload_n 1, 1) := by decide +kernel
theorem dX4_readStatement_16 : decode cX4_readStatement 16 = .ok (.invokevirtual 99, 3) := by decide +kernel
theorem dX4_readStatement_19 : decode cX4_readStatement 19 = .ok (.goto 78, 3) := by decide +kernel
theorem dX4_readStatement_22 : decode cX4_readStatement 22 = .ok (.aload_n 0, 1) := by decide +kernel
theorem dX4_readStatement_23 : decode cX4_readStatement 23 = .ok (.ldc 103, 2) := by decide +kernel
theorem dX4_readStatement_25 : decode cX4_readStatement 25 = .ok (.invokevirtual 95, 3) := by decide +kernel
theorem dX4_readStatement_28 : decode cX4_readStatement 28 = .ok (.ifCond .eq 11, 3) := by decide +kernel
theorem dX4_readStatement_31 : decode cX4_readStatement 31 = .ok (.aload_n 0, 1) := by decide +kernel
theorem dX4_readStatement_32 : decode cX4_readStatement 32 = .ok (.iload_n 1, 1) := by decide +kernel
theorem dX4_readStatement_33 : decode cX4_readStatement 33 = .ok (.invokevirtual 105, 3) := by decide +kernel
theorem dX4_readStatement_36 : decode cX4_readStatement 36 = .ok (.goto 61, 3) := by decide +kernel
theorem dX4_readStatement_39 : decode cX4_readStatement 39 = .ok (.aload_n 0, 1) := by decide +kernel
theorem dX4_readStatement_40 : decode cX4_readStatement 40 = .ok (.ldc 108, 2) := by decide +kernel
theorem dX4_readStatement_42 : decode cX4_readStatement 42 = .ok (.invokevirtual 95, 3) := by decide +kernel
theorem dX4_readStatement_45 : decode cX4_readStatement 45 = .ok (.ifCond .eq 11, 3) := by decide +kernel
theorem dX4_readStatement_48 : decode cX4_readStatement 48 = .ok (.aload_n 0, 1) := by decide +kernel
theorem dX4_readStatement_49 : decode cX4_readStatement 49 = .ok (.iload_n 1, 1) := by decide +kernel
theorem dX4_readStatement_50 : decode cX4_readStatement 50 = .ok (.invokevirtual 110, 3) := by decide +kernel
theorem dX4_readStatement_53 : decode cX4_readStatement 53 = .ok (.goto 44, 3) := by decide +kernel
theorem dX4_readStatement_56 : decode cX4_readStatement 56 = .ok (.aload_n 0, 1) := by decide +kernel
theorem dX4_readStatement_57 : decode cX4_readStatement 57 = .ok (.ldc 113, 2) := by decide +kernel
theorem dX4_readStatement_59 : decode cX4_readStatement 59 = .ok (.invokevirtual 95, 3) := by decide +kernel
theorem dX4_readStatement_62 : decode cX4_readStatement 62 = .ok (.ifCond .eq 10, 3) := by decide +kernel
theorem dX4_readStatement_65 : decode cX4_readStatement 65 = .ok (.aload_n 0, 1) := by decide +kernel
theorem dX4_readStatement_66 : decode cX4_readStatement 66 = .ok (.invokevirtual 115, 3) := by decide +kernel
theorem dX4_readStatement_69 : decode cX4_readStatement 69 = .ok (.goto 28, 3) := by decide +kernel
theorem dX4_readStatement_72 : decode cX4_readStatement 72 = .ok (.aload_n 0, 1) := by decide +kernel
theorem dX4_readStatement_73 : decode cX4_readStatement 73 = .ok (.ldc 118, 2) := by decide +kernel
theorem dX4_readStatement_75 : decode cX4_readStatement 75 = .ok (.invokevirtual 95, 3) := by decide +kernel
theorem dX4_readStatement_78 : decode cX4_readStatement 78 = .ok (.ifCond .eq 10, 3) := by decide +kernel
theorem dX4_readStatement_81 : decode cX4_readStatement 81 = .ok (.aload_n 0, 1) := by decide +kernel
theorem dX4_readStatement_82 : decode cX4_readStatement 82 = .ok (.invokevirtual 120, 3) := by decide +kernel
theorem dX4_readStatement_85 : decode cX4_readStatement 85 = .ok (.goto 12, 3) := by decide +kernel
theorem dX4_readStatement_88 : decode cX4_readStatement 88 = .ok (.aload_n 0, 1) := by decide +kernel
theorem dX4_readStatement_89 : decode cX4_readStatement 89 = .ok (.iconst 1, 1) := by decide +kernel
theorem dX4_readStatement_90 : decode cX4_readStatement 90 = .ok (.aload_n 0, 1) := by decide +kernel
theorem dX4_readStatement_91 : decode cX4_readStatement 91 = .ok (.getfield 68, 3) := by decide +kernel
theorem dX4_readStatement_94 : decode cX4_readStatement 94 = .ok (.invokevirtual 90, 3) := by decide +kernel
theorem dX4_readStatement_97 : decode cX4_readStatement 97 = .ok (.return_, 1) := by decide +kernel
theorem dX4_readDoor_0 : decode cX4_readDoor 0 = .ok (.aload_n 0, 1) := by decide +kernel
theorem dX4_readDoor_1 : decode cX4_readDoor 1 = .ok (.ldc 103, 2) := by decide +kernel
theorem dX4_readDoor_3 : decode cX4_readDoor 3 = .ok (.invokevirtual 95, 3) := by decide +kernel
theorem dX4_readDoor_6 : decode cX4_readDoor 6 = .ok (.istore_n 2, 1) := by decide +kernel
theorem dX4_readDoor_7 : decode cX4_readDoor 7 = .ok (.iload_n 2, 1) := by decide +kernel
theorem dX4_readDoor_8 : decode cX4_readDoor 8 = .ok (.ifCond .ne 22, 3) := by decide +kernel
theorem dX4_readDoor_11 : decode cX4_readDoor 11 = .ok (.aload_n 0, 1) := by decide +kernel
theorem dX4_readDoor_12 : decode cX4_readDoor 12 = .ok (.ldc 108, 2) := by decide +kernel
theorem dX4_readDoor_14 : decode cX4_readDoor 14 = .ok (.invokevirtual 95, 3) := by decide +kernel
theorem dX4_readDoor_17 : decode cX4_readDoor 17 = .ok (.ifCond .ne 13, 3) := by decide +kernel
theorem dX4_readDoor_20 : decode cX4_readDoor 20 = .ok (.aload_n 0, 1) := by decide +kernel
theorem dX4_readDoor_21 : decode cX4_readDoor 21 = .ok (.iconst 1, 1) := by decide +kernel
theorem dX4_readDoor_22 : decode cX4_readDoor 22 = .ok (.aload_n 0, 1) := by decide +kernel
theorem dX4_readDoor_23 : decode cX4_readDoor 23 = .ok (.getfield 68, 3) := by decide +kernel
theorem dX4_readDoor_26 : decode cX4_readDoor 26 = .ok (.invokevirtual 90, 3) := by decide +kernel
theorem dX4_readDoor_29 : decode cX4_readDoor 29 = .ok (.return_, 1) := by decide +kernel
theorem dX4_readDoor_30 : decode cX4_readDoor 30 = .ok (.aload_n 0, 1) := by decide +kernel
theorem dX4_readDoor_31 : decode cX4_readDoor 31 = .ok (.iconst 1, 1) := by decide +kernel
theorem dX4_readDoor_32 : decode cX4_readDoor 32 = .ok (.invokevirtual 123, 3) := by decide +kernel
theorem dX4_readDoor_35 : decode cX4_readDoor 35 = .ok (.ifCond .ne 4, 3) := by decide +kernel
theorem dX4_readDoor_38 : decode cX4_readDoor 38 = .ok (.return_, 1) := by decide +kernel
theorem dX4_readDoor_39 : decode cX4_readDoor 39 = .ok (.aload_n 0, 1) := by decide +kernel
theorem dX4_readDoor_40 : decode cX4_readDoor 40 = .ok (.getfield 12, 3) := by decide +kernel
theorem dX4_readDoor_43 : decode cX4_readDoor 43 = .ok (.getfield 126, 3) := by decide +kernel
theorem dX4_readDoor_46 : decode cX4_readDoor 46 = .ok (.bipush 6, 2) := by decide +kernel
theorem dX4_readDoor_48 : decode cX4_readDoor 48 = .ok (.if_icmp .lt 9, 3) := by decide +kernel
theorem dX4_readDoor_51 : decode cX4_readDoor 51 = .ok (.aload_n 0, 1) := by decide +kernel
theorem dX4_readDoor_52 : decode cX4_readDoor 52 = .ok (.iconst 3, 1) := by decide +kernel
theorem dX4_readDoor_53 : decode cX4_readDoor 53 = .ok (.iload_n 1, 1) := by decide +kernel
theorem dX4_readDoor_54 : decode cX4_readDoor 54 = .ok (.invokevirtual 90, 3) := by decide +kernel
theorem dX4_readDoor_57 : decode cX4_readDoor 57 = .ok (.aload_n 0, 1) := by decide +kernel
theorem dX4_readDoor_58 : decode cX4_readDoor 58 = .ok (.iconst 0, 1) := by decide +kernel
theorem dX4_readDoor_59 : decode cX4_readDoor 59 = .ok (.iconst 0, 1) := by decide +kernel
theorem dX4_readDoor_60 : decode cX4_readDoor 60 = .ok (.bipush 99, 2) := by decide +kernel
theorem dX4_readDoor_62 : decode cX4_readDoor 62 = .ok (.invokevirtual 129, 3) := by decide +kernel
theorem dX4_readDoor_65 : decode cX4_readDoor 65 = .ok (.aload_n 0, 1) := by decide +kernel
theorem dX4_readDoor_66 : decode cX4_readDoor 66 = .ok (.getfield 12, 3) := by decide +kernel
theorem dX4_readDoor_69 : decode cX4_readDoor 69 = .ok (.iload_n 2, 1) := by decide +kernel
theorem dX4_readDoor_70 : decode cX4_readDoor 70 = .ok (.ifCond .eq 7, 3) := by decide +kernel
theorem dX4_readDoor_73 : decode cX4_readDoor 73 = .ok (.iconst 0, 1) := by decide +kernel
theorem dX4_readDoor_74 : decode cX4_readDoor 74 = .ok (.goto 4, 3) := by decide +kernel
theorem dX4_readDoor_77 : decode cX4_readDoor 77 = .ok (.iconst 1, 1) := by decide +kernel
theorem dX4_readDoor_78 : decode cX4_readDoor 78 = .ok (.aload_n 0, 1) := by decide +kernel
theorem dX4_readDoor_79 : decode cX4_readDoor 79 = .ok (.getfield 18, 3) := by decide +kernel
theorem dX4_readDoor_82 : decode cX4_readDoor 82 = .ok (.iconst 0, 1) := by decide +kernel
theorem dX4_readDoor_83 : decode cX4_readDoor 83 = .ok (.iaload, 1) := by decide +kernel
theorem dX4_readDoor_84 : decode cX4_readDoor 84 = .ok (.invokevirtual 133, 3) := by decide +kernel
theorem dX4_readDoor_87 : decode cX4_readDoor 87 = .ok (.return_, 1) := by decide +kernel
theorem dX4_readBringer_0 : decode cX4_readBringer 0 = .ok (.aload_n 0, 1) := by decide +kernel
theorem dX4_readBringer_1 : decode cX4_readBringer 1 = .ok (.iconst 5, 1) := by decide +kernel
theorem dX4_readBringer_2 : decode cX4_readBringer 2 = .ok (.invokevirtual 123, 3) := by decide +kernel
theorem dX4_readBringer_5 : decode cX4_readBringer 5 = .ok (.ifCond .ne 4, 3) := by decide +kernel
theorem dX4_readBringer_8 : decode cX4_readBringer 8 = .ok (.return_, 1) := by decide +kernel
theorem dX4_readBringer_9 : decode cX4_readBringer 9 = .ok (.aload_n 0, 1) := by decide +kernel
theorem dX4_readBringer_10 : decode cX4_readBringer 10 = .ok (.iload_n 1, 1) := by decide +kernel
theorem dX4_readBringer_11 : decode cX4_readBringer 11 = .ok (.invokevirtual 136, 3) := by decide +kernel
theorem dX4_readBringer_14 : decode cX4_readBringer 14 = .ok (.aload_n 0, 1) := by decide +kernel
theorem dX4_readBringer_15 : decode cX4_readBringer 15 = .ok (.iconst 0, 1) := by decide +kernel
theorem dX4_readBringer_16 : decode cX4_readBringer 16 = .ok (.iconst 0, 1) := by decide +kernel
theorem dX4_readBringer_17 : decode cX4_readBringer 17 = .ok (.bipush 99, 2) := by decide +kernel
theorem dX4_readBringer_19 : decode cX4_readBringer 19 = .ok (.invokevirtual 129, 3) := by decide +kernel
theorem dX4_readBringer_22 : decode cX4_readBringer 22 = .ok (.iconst 0, 1) := by decide +kernel
theorem dX4_readBringer_23 : decode cX4_readBringer 23 = .ok (.istore_n 2, 1) := by decide +kernel
theorem dX4_readBringer_24 : decode cX4_readBringer 24 = .ok (.iconst 1, 1) := by decide +kernel
theorem dX4_readBringer_25 : decode cX4_readBringer 25 = .ok (.istore_n 3, 1) := by decide +kernel
theorem dX4_readBringer_26 : decode cX4_readBringer 26 = .ok (.iconst 1, 1) := by decide +kernel
theorem dX4_readBringer_27 : decode cX4_readBringer 27 = .ok (.istore 4, 2) := by decide +kernel
theorem dX4_readBringer_29 : decode cX4_readBringer 29 = .ok (.iload 4, 2) := by decide +kernel
theorem dX4_readBringer_31 : decode cX4_readBringer 31 = .ok (.iconst 4, 1) := by decide +kernel
theorem dX4_readBringer_32 : decode cX4_readBringer 32 = .ok (.if_icmp .gt 64, 3) := by decide +kernel
theorem dX4_readBringer_35 : decode cX4_readBringer 35 = .ok (.aload_n 0, 1) := by decide +kernel
theorem dX4_readBringer_36 : decode cX4_readBringer 36 = .ok (.iload 4, 2) := by decide +kernel
theorem dX4_readBringer_38 : decode cX4_readBringer 38 = .ok (.iconst 0, 1) := by decide +kernel
theorem dX4_readBringer_39 : decode cX4_readBringer 39 = .ok (.bipush 15, 2) := by decide +kernel
theorem dX4_readBringer_41 : decode cX4_readBringer 41 = .ok (.invokevirtual 129, 3) := by decide +kernel
theorem dX4_readBringer_44 : decode cX4_readBringer 44 = .ok (.iload_n 2, 1) := by decide +kernel
theorem dX4_readBringer_45 : decode cX4_readBringer 45 = .ok (.aload_n 0, 1) := by decide +kernel
theorem dX4_readBringer_46 : decode cX4_readBringer 46 = .ok (.getfield 18, 3) := by decide +kernel
theorem dX4_readBringer_49 : decode cX4_readBringer 49 = .ok (.iload 4, 2) := by decide +kernel
theorem dX4_readBringer_51 : decode cX4_readBringer 51 = .ok (.iaload, 1) := by decide +kernel
theorem dX4_readBringer_52 : decode cX4_readBringer 52 = .ok (.bipush 15, 2) := by decide +kernel
theorem dX4_readBringer_54 : decode cX4_readBringer 54 = .ok (.if_icmp .gt 13, 3) := by decide +kernel
theorem dX4_readBringer_57 : decode cX4_readBringer 57 = .ok (.aload_n 0, 1) := by decide +kernel
theorem dX4_readBringer_58 : decode cX4_readBringer 58 = .ok (.getfield 18, 3) := by decide +kernel
theorem dX4_readBringer_61 : decode cX4_readBringer 61 = .ok (.iload 4, 2) := by decide +kernel
theorem dX4_readBringer_63 : decode cX4_readBringer 63 = .ok (.iaload, 1) := by decide +kernel
theorem dX4_readBringer_64 : decode cX4_readBringer 64 = .ok (.goto 4, 3) := by decide +kernel
theorem dX4_readBringer_67 : decode cX4_readBringer 67 = .ok (.iconst 0, 1) := by decide +kernel
theorem dX4_readBringer_68 : decode cX4_readBringer 68 = .ok (.iadd, 1) := by decide +kernel
theorem dX4_readBringer_69 : decode cX4_readBringer 69 = .ok (.istore_n 2, 1) := by decide +kernel
theorem dX4_readBringer_70 : decode cX4_readBringer 70 = .ok (.iload_n 3, 1) := by decide +kernel
theorem dX4_readBringer_71 : decode cX4_readBringer 71 = .ok (.ifCond .eq 17, 3) := by decide +kernel
theorem dX4_readBringer_74 : decode cX4_readBringer 74 = .ok (.aload_n 0, 1) := by decide +kernel
theorem dX4_readBringer_75 : decode cX4_readBringer 75 = .ok (.getfield 18, 3) := by decide +kernel
theorem dX4_readBringer_78 : decode cX4_readBringer 78 = .ok (.iload 4, 2) := by decide +kernel
theorem dX4_readBringer_80 : decode cX4_readBringer 80 = .ok (.iaload, 1) := by decide +kernel
theorem dX4_readBringer_81 : decode cX4_readBringer 81 = .ok (.ifCond .ne 7, 3) := by decide +kernel
theorem dX4_readBringer_84 : decode cX4_readBringer 84 = .ok (.iconst 1, 1) := by decide +kernel
theorem dX4_readBringer_85 : decode cX4_readBringer 85 = .ok (.goto 4, 3) := by decide +kernel
theorem dX4_readBringer_88 : decode cX4_readBringer 88 = .ok (.iconst 0, 1) := by decide +kernel
theorem dX4_readBringer_89 : decode cX4_readBringer 89 = .ok (.istore_n 3, 1) := by decide +kernel
theorem dX4_readBringer_90 : decode cX4_readBringer 90 = .ok (.iinc 4 1, 3) := by decide +kernel
theorem dX4_readBringer_93 : decode cX4_readBringer 93 = .ok (.goto (-64), 3) := by decide +kernel
theorem dX4_readBringer_96 : decode cX4_readBringer 96 = .ok (.iload_n 3, 1) := by decide +kernel
theorem dX4_readBringer_97 : decode cX4_readBringer 97 = .ok (.ifCond .ne 17, 3) := by decide +kernel
theorem dX4_readBringer_100 : decode cX4_readBringer 100 = .ok (.aload_n 0, 1) := by decide +kernel
theorem dX4_readBringer_101 : decode cX4_readBringer 101 = .ok (.getfield 12, 3) := by decide +kernel
theorem dX4_readBringer_104 : decode cX4_readBringer 104 = .ok (.getfield 139, 3) := by decide +kernel
theorem dX4_readBringer_107 : decode cX4_readBringer 107 = .ok (.iload_n 2, 1) := by decide +kernel
theorem dX4_readBringer_108 : decode cX4_readBringer 108 = .ok (.iadd, 1) := by decide +kernel
theorem dX4_readBringer_109 : decode cX4_readBringer 109 = .ok (.bipush 40, 2) := by decide +kernel
theorem dX4_readBringer_111 : decode cX4_readBringer 111 = .ok (.if_icmp .le 10, 3) := by decide +kernel
theorem dX4_readBringer_114 : decode cX4_readBringer 114 = .ok (.aload_n 0, 1) := by decide +kernel
theorem dX4_readBringer_115 : decode cX4_readBringer 115 = .ok (.iconst 4, 1) := by decide +kernel
theorem dX4_readBringer_116 : decode cX4_readBringer 116 = .ok (.iload_n 1, 1) := by decide +kernel
theorem dX4_readBringer_117 : decode cX4_readBringer 117 = .ok (.invokevirtual 90, 3) := by decide +kernel
theorem dX4_readBringer_120 : decode cX4_readBringer 120 = .ok (.return_, 1) := by decide +kernel
theorem dX4_readBringer_121 : decode cX4_readBringer 121 = .ok (.aload_n 0, 1) := by decide +kernel
theorem dX4_readBringer_122 : decode cX4_readBringer 122 = .ok (.getfield 12, 3) := by decide +kernel
theorem dX4_readBringer_125 : decode cX4_readBringer 125 = .ok (.aload_n 0, 1) := by decide +kernel
theorem dX4_readBringer_126 : decode cX4_readBringer 126 = .ok (.getfield 18, 3) := by decide +kernel
theorem dX4_readBringer_129 : decode cX4_readBringer 129 = .ok (.iconst 0, 1) := by decide +kernel
theorem dX4_readBringer_130 : decode cX4_readBringer 130 = .ok (.iaload, 1) := by decide +kernel
theorem dX4_readBringer_131 : decode cX4_readBringer 131 = .ok (.invokevirtual 142, 3) := by decide +kernel
theorem dX4_readBringer_134 : decode cX4_readBringer 134 = .ok (.iconst 1, 1) := by decide +kernel
theorem dX4_readBringer_135 : decode cX4_readBringer 135 = .ok (.istore 4, 2) := by decide +kernel
theorem dX4_readBringer_137 : decode cX4_readBringer 137 = .ok (.iload 4, 2) := by decide +kernel
theorem dX4_readBringer_139 : decode cX4_readBringer 139 = .ok (.iconst 4, 1) := by decide +kernel
theorem dX4_readBringer_140 : decode cX4_readBringer 140 = .ok (.if_icmp .gt 53, 3) := by decide +kernel
theorem dX4_readBringer_143 : decode cX4_readBringer 143 = .ok (.iconst 0, 1) := by decide +kernel
theorem dX4_readBringer_144 : decode cX4_readBringer 144 = .ok (.istore 5, 2) := by decide +kernel
theorem dX4_readBringer_146 : decode cX4_readBringer 146 = .ok (.iload 5, 2) := by decide +kernel
theorem dX4_readBringer_148 : decode cX4_readBringer 148 = .ok (.aload_n 0, 1) := by decide +kernel
theorem dX4_readBringer_149 : decode cX4_readBringer 149 = .ok (.getfield 18, 3) := by decide +kernel
theorem dX4_readBringer_152 : decode cX4_readBringer 152 = .ok (.iload 4, 2) := by decide +kernel
theorem dX4_readBringer_154 : decode cX4_readBringer 154 = .ok (.iaload, 1) := by decide +kernel
theorem dX4_readBringer_155 : decode cX4_readBringer 155 = .ok (.if_icmp .ge 32, 3) := by decide +kernel
theorem dX4_readBringer_158 : decode cX4_readBringer 158 = .ok (.aload_n 0, 1) := by decide +kernel
theorem dX4_readBringer_159 : decode cX4_readBringer 159 = .ok (.getfield 18, 3) := by decide +kernel
theorem dX4_readBringer_162 : decode cX4_readBringer 162 = .ok (.iload 4, 2) := by decide +kernel
theorem dX4_readBringer_164 : decode cX4_readBringer 164 = .ok (.iaload, 1) := by decide +kernel
theorem dX4_readBringer_165 : decode cX4_readBringer 165 = .ok (.bipush 15, 2) := by decide +kernel
theorem dX4_readBringer_167 : decode cX4_readBringer 167 = .ok (.if_icmp .gt 20, 3) := by decide +kernel
theorem dX4_readBringer_170 : decode cX4_readBringer 170 = .ok (.aload_n 0, 1) := by decide +kernel
theorem dX4_readBringer_171 : decode cX4_readBringer 171 = .ok (.getfield 12, 3) := by decide +kernel
theorem dX4_readBringer_174 : decode cX4_readBringer 174 = .ok (.iload 4, 2) := by decide +kernel
theorem dX4_readBringer_176 : decode cX4_readBringer 176 = .ok (.iconst 1, 1) := by decide +kernel
theorem dX4_readBringer_177 : decode cX4_readBringer 177 = .ok (.isub, 1) := by decide +kernel
theorem dX4_readBringer_178 : decode cX4_readBringer 178 = .ok (.invokevirtual 145, 3) := by decide +kernel
theorem dX4_readBringer_181 : decode cX4_readBringer 181 = .ok (.iinc 5 1, 3) := by decide +kernel
theorem dX4_readBringer_184 : decode cX4_readBringer 184 = .ok (.goto (-38), 3) := by decide +kernel
theorem dX4_readBringer_187 : decode cX4_readBringer 187 = .ok (.iinc 4 1, 3) := by decide +kernel
theorem dX4_readBringer_190 : decode cX4_readBringer 190 = .ok (.goto (-53), 3) := by decide +kernel
theorem dX4_readBringer_193 : decode cX4_readBringer 193 = .ok (.return_, 1) := by decide +kernel
theorem dX4_readTaker_0 : decode cX4_readTaker 0 = .ok (.aload_n 0, 1) := by decide +kernel
theorem dX4_readTaker_1 : decode cX4_readTaker 1 = .ok (.iconst 5, 1) := by decide +kernel
theorem dX4_readTaker_2 : decode cX4_readTaker 2 = .ok (.invokevirtual 123, 3) := by decide +kernel
theorem dX4_readTaker_5 : decode cX4_readTaker 5 = .ok (.ifCond .ne 4, 3) := by decide +kernel
theorem dX4_readTaker_8 : decode cX4_readTaker 8 = .ok (.return_, 1) := by decide +kernel
theorem dX4_readTaker_9 : decode cX4_readTaker 9 = .ok (.aload_n 0, 1) := by decide +kernel
theorem dX4_readTaker_10 : decode cX4_readTaker 10 = .ok (.iload_n 1, 1) := by decide +kernel
theorem dX4_readTaker_11 : decode cX4_readTaker 11 = .ok (.invokevirtual 136, 3) := by decide +kernel
theorem dX4_readTaker_14 : decode cX4_readTaker 14 = .ok (.aload_n 0, 1) := by decide +kernel
theorem dX4_readTaker_15 : decode cX4_readTaker 15 = .ok (.iconst 0, 1) := by decide +kernel
theorem dX4_readTaker_16 : decode cX4_readTaker 16 = .ok (.iconst 0, 1) := by decide +kernel
theorem dX4_readTaker_17 : decode cX4_readTaker 17 = .ok (.bipush 99, 2) := by decide +kernel
theorem dX4_readTaker_19 : decode cX4_readTaker 19 = .ok (.invokevirtual 129, 3) := by decide +kernel
theorem dX4_readTaker_22 : decode cX4_readTaker 22 = .ok (.aload_n 0, 1) := by decide +kernel
theorem dX4_readTaker_23 : decode cX4_readTaker 23 = .ok (.iconst 1, 1) := by decide +kernel
theorem dX4_readTaker_24 : decode cX4_readTaker 24 = .ok (.iconst 0, 1) := by decide +kernel
theorem dX4_readTaker_25 : decode cX4_readTaker 25 = .ok (.iconst 3, 1) := by decide +kernel
theorem dX4_readTaker_26 : decode cX4_readTaker 26 = .ok (.invokevirtual 129, 3) := by decide +kernel
theorem dX4_readTaker_29 : decode cX4_readTaker 29 = .ok (.aload_n 0, 1) := by decide +kernel
theorem dX4_readTaker_30 : decode cX4_readTaker 30 = .ok (.iconst 2, 1) := by decide +kernel
theorem dX4_readTaker_31 : decode cX4_readTaker 31 = .ok (.iconst 0, 1) := by decide +kernel
theorem dX4_readTaker_32 : decode cX4_readTaker 32 = .ok (.sipush 199, 3) := by decide +kernel
theorem dX4_readTaker_35 : decode cX4_readTaker 35 = .ok (.invokevirtual 129, 3) := by decide +kernel
theorem dX4_readTaker_38 : decode cX4_readTaker 38 = .ok (.aload_n 0, 1) := by decide +kernel
theorem dX4_readTaker_39 : decode cX4_readTaker 39 = .ok (.iconst 3, 1) := by decide +kernel
theorem dX4_readTaker_40 : decode cX4_readTaker 40 = .ok (.iconst 1, 1) := by decide +kernel
theorem dX4_readTaker_41 : decode cX4_readTaker 41 = .ok (.bipush 40, 2) := by decide +kernel
theorem dX4_readTaker_43 : decode cX4_readTaker 43 = .ok (.invokevirtual 129, 3) := by decide +kernel
theorem dX4_readTaker_46 : decode cX4_readTaker 46 = .ok (.aload_n 0, 1) := by decide +kernel
theorem dX4_readTaker_47 : decode cX4_readTaker 47 = .ok (.iconst 4, 1) := by decide +kernel
theorem dX4_readTaker_48 : decode cX4_readTaker 48 = .ok (.iconst 1, 1) := by decide +kernel
theorem dX4_readTaker_49 : decode cX4_readTaker 49 = .ok (.bipush 9, 2) := by decide +kernel
theorem dX4_readTaker_51 : decode cX4_readTaker 51 = .ok (.invokevirtual 129, 3) := by decide +kernel
theorem dX4_readTaker_54 : decode cX4_readTaker 54 = .ok (.aload_n 0, 1) := by decide +kernel
theorem dX4_readTaker_55 : decode cX4_readTaker 55 = .ok (.getfield 12, 3) := by decide +kernel
theorem dX4_readTaker_58 : decode cX4_readTaker 58 = .ok (.aload_n 0, 1) := by decide +kernel
theorem dX4_readTaker_59 : decode cX4_readTaker 59 = .ok (.getfield 18, 3) := by decide +kernel
theorem dX4_readTaker_62 : decode cX4_readTaker 62 = .ok (.iconst 0, 1) := by decide +kernel
theorem dX4_readTaker_63 : decode cX4_readTaker 63 = .ok (.iaload, 1) := by decide +kernel
theorem dX4_readTaker_64 : decode cX4_readTaker 64 = .ok (.aload_n 0, 1) := by decide +kernel
theorem dX4_readTaker_65 : decode cX4_readTaker 65 = .ok (.getfield 18, 3) := by decide +kernel
theorem dX4_readTaker_68 : decode cX4_readTaker 68 = .ok (.iconst 1, 1) := by decide +kernel
theorem dX4_readTaker_69 : decode cX4_readTaker 69 = .ok (.iaload, 1) := by decide +kernel
theorem dX4_readTaker_70 : decode cX4_readTaker 70 = .ok (.aload_n 0, 1) := by decide +kernel
theorem dX4_readTaker_71 : decode cX4_readTaker 71 = .ok (.getfield 18, 3) := by decide +kernel
theorem dX4_readTaker_74 : decode cX4_readTaker 74 = .ok (.iconst 2, 1) := by decide +kernel
theorem dX4_readTaker_75 : decode cX4_readTaker 75 = .ok (.iaload, 1) := by decide +kernel
theorem dX4_readTaker_76 : decode cX4_readTaker 76 = .ok (.aload_n 0, 1) := by decide +kernel
theorem dX4_readTaker_77 : decode cX4_readTaker 77 = .ok (.getfield 18, 3) := by decide +kernel
theorem dX4_readTaker_80 : decode cX4_readTaker 80 = .ok (.iconst 3, 1) := by decide +kernel
theorem dX4_readTaker_81 : decode cX4_readTaker 81 = .ok (.iaload, 1) := by decide +kernel
theorem dX4_readTaker_82 : decode cX4_readTaker 82 = .ok (.aload_n 0, 1) := by decide +kernel
theorem dX4_readTaker_83 : decode cX4_readTaker 83 = .ok (.getfield 18, 3) := by decide +kernel
theorem dX4_readTaker_86 : decode cX4_readTaker 86 = .ok (.iconst 4, 1) := by decide +kernel
theorem dX4_readTaker_87 : decode cX4_readTaker 87 = .ok (.iaload, 1) := by decide +kernel
theorem dX4_readTaker_88 : decode cX4_readTaker 88 = .ok (.invokevirtual 148, 3) := by decide +kernel
theorem dX4_readTaker_91 : decode cX4_readTaker 91 = .ok (.return_, 1) := by decide +kernel
theorem dX4_checkTruckCount_0 : decode cX4_checkTruckCount 0 = .ok (.aload_n 0, 1) := by decide +kernel
theorem dX4_checkTruckCount_1 : decode cX4_checkTruckCount 1 = .ok (.getfield 12, 3) := by decide +kernel
theorem dX4_checkTruckCount_4 : decode cX4_checkTruckCount 4 = .ok (.getfield 152, 3) := by decide +kernel
theorem dX4_checkTruckCount_7 : decode cX4_checkTruckCount 7 = .ok (.bipush 8, 2) := by decide +kernel
theorem dX4_checkTruckCount_9 : decode cX4_checkTruckCount 9 = .ok (.if_icmp .lt 9, 3) := by decide +kernel
theorem dX4_checkTruckCount_12 : decode cX4_checkTruckCount 12 = .ok (.aload_n 0, 1) := by decide +kernel
theorem dX4_checkTruckCount_13 : decode cX4_checkTruckCount 13 = .ok (.iconst 3, 1) := by decide +kernel
theorem dX4_checkTruckCount_14 : decode cX4_checkTruckCount 14 = .ok (.iload_n 1, 1) := by decide +kernel
theorem dX4_checkTruckCount_15 : decode cX4_checkTruckCount 15 = .ok (.invokevirtual 90, 3) := by decide +kernel
theorem dX4_checkTruckCount_18 : decode cX4_checkTruckCount 18 = .ok (.return_, 1) := by decide +kernel
theorem dX4_readStaging_0 : decode cX4_readStaging 0 = .ok (.aload_n 0, 1) := by decide +kernel
theorem dX4_readStaging_1 : decode cX4_readStaging 1 = .ok (.iconst 1, 1) := by decide +kernel
theorem dX4_readStaging_2 : decode cX4_readStaging 2 = .ok (.invokevirtual 123, 3) := by decide +kernel
theorem dX4_readStaging_5 : decode cX4_readStaging 5 = .ok (.ifCond .eq 24, 3) := by decide +kernel
theorem dX4_readStaging_8 : decode cX4_readStaging 8 = .ok (.aload_n 0, 1) := by decide +kernel
theorem dX4_readStaging_9 : decode cX4_readStaging 9 = .ok (.iconst 0, 1) := by decide +kernel
theorem dX4_readStaging_10 : decode cX4_readStaging 10 = .ok (.iconst 0, 1) := by decide +kernel
theorem dX4_readStaging_11 : decode cX4_readStaging 11 = .ok (.bipush 40, 2) := by decide +kernel
theorem dX4_readStaging_13 : decode cX4_readStaging 13 = .ok (.invokevirtual 129, 3) := by decide +kernel
theorem dX4_readStaging_16 : decode cX4_readStaging 16 = .ok (.aload_n 0, 1) := by decide +kernel
theorem dX4_readStaging_17 : decode cX4_readStaging 17 = .ok (.getfield 12, 3) := by decide +kernel
theorem dX4_readStaging_20 : decode cX4_readStaging 20 = .ok (.aload_n 0, 1) := by decide +kernel
theorem dX4_readStaging_21 : decode cX4_readStaging 21 = .ok (.getfield 18, 3) := by decide +kernel
theorem dX4_readStaging_24 : decode cX4_readStaging 24 = .ok (.iconst 0, 1) := by decide +kernel
theorem dX4_readStaging_25 : decode cX4_readStaging 25 = .ok (.iaload, 1) := by decide +kernel
theorem dX4_readStaging_26 : decode cX4_readStaging 26 = .ok (.putfield 155, 3) := by decide +kernel
theorem dX4_readStaging_29 : decode cX4_readStaging 29 = .ok (.return_, 1) := by decide +kernel
theorem dX4_readChange_0 : decode cX4_readChange 0 = .ok (.aload_n 0, 1) := by decide +kernel
theorem dX4_readChange_1 : decode cX4_readChange 1 = .ok (.iconst 1, 1) := by decide +kernel
theorem dX4_readChange_2 : decode cX4_readChange 2 = .ok (.invokevirtual 123, 3) := by decide +kernel
theorem dX4_readChange_5 : decode cX4_readChange 5 = .ok (.ifCond .eq 24, 3) := by decide +kernel
theorem dX4_readChange_8 : decode cX4_readChange 8 = .ok (.aload_n 0, 1) := by decide +kernel
theorem dX4_readChange_9 : decode cX4_readChange 9 = .ok (.iconst 0, 1) := by decide +kernel
theorem dX4_readChange_10 : decode cX4_readChange 10 = .ok (.iconst 0, 1) := by decide +kernel
theorem dX4_readChange_11 : decode cX4_readChange 11 = .ok (.bipush 9, 2) := by decide +kernel
theorem dX4_readChange_13 : decode cX4_readChange 13 = .ok (.invokevirtual 129, 3) := by decide +kernel
theorem dX4_readChange_16 : decode cX4_readChange 16 = .ok (.aload_n 0, 1) := by decide +kernel
theorem dX4_readChange_17 : decode cX4_readChange 17 = .ok (.getfield 12, 3) := by decide +kernel
theorem dX4_readChange_20 : decode cX4_readChange 20 = .ok (.aload_n 0, 1) := by decide +kernel
theorem dX4_readChange_21 : decode cX4_readChange 21 = .ok (.getfield 18, 3) := by decide +kernel
theorem dX4_readChange_24 : decode cX4_readChange 24 = .ok (.iconst 0, 1) := by decide +kernel
theorem dX4_readChange_25 : decode cX4_readChange 25 = .ok (.iaload, 1) := by decide +kernel
theorem dX4_readChange_26 : decode cX4_readChange 26 = .ok (.putfield 157, 3) := by decide +kernel
theorem dX4_readChange_29 : decode cX4_readChange 29 = .ok (.return_, 1) := by decide +kernel
theorem dX5_init_0 : decode cX5_init 0 = .ok (.aload_n 0, 1) := by decide +kernel
theorem dX5_init_1 : decode cX5_init 1 = .ok (.invokespecial 3, 3) := by decide +kernel
theorem dX5_init_4 : decode cX5_init 4 = .ok (.aload_n 0, 1) := by decide +kernel
theorem dX5_init_5 : decode cX5_init 5 = .ok (.bipush 8, 2) := by decide +kernel
theorem dX5_init_7 : decode cX5_init 7 = .ok (.newarray .int, 2) := by decide +kernel
theorem dX5_init_9 : decode cX5_init 9 = .ok (.putfield 9, 3) := by decide +kernel
theorem dX5_init_12 : decode cX5_init 12 = .ok (.aload_n 0, 1) := by decide +kernel
theorem dX5_init_13 : decode cX5_init 13 = .ok (.bipush 8, 2) := by decide +kernel
theorem dX5_init_15 : decode cX5_init 15 = .ok (.newarray .int, 2) := by decide +kernel
theorem dX5_init_17 : decode cX5_init 17 = .ok (.putfield 15, 3) := by decide +kernel
theorem dX5_init_20 : decode cX5_init 20 = .ok (.aload_n 0, 1) := by decide +kernel
theorem dX5_init_21 : decode cX5_init 21 = .ok (.bipush 8, 2) := by decide +kernel
theorem dX5_init_23 : decode cX5_init 23 = .ok (.newarray .int, 2) := by decide +kernel
theorem dX5_init_25 : decode cX5_init 25 = .ok (.putfield 18, 3) := by decide +kernel
theorem dX5_init_28 : decode cX5_init 28 = .ok (.aload_n 0, 1) := by decide +kernel
theorem dX5_init_29 : decode cX5_init 29 = .ok (.bipush 40, 2) := by decide +kernel
theorem dX5_init_31 : decode cX5_init 31 = .ok (.newarray .int, 2) := by decide +kernel
theorem dX5_init_33 : decode cX5_init 33 = .ok (.putfield 21, 3) := by decide +kernel
theorem dX5_init_36 : decode cX5_init 36 = .ok (.aload_n 0, 1) := by decide +kernel
theorem dX5_init_37 : decode cX5_init 37 = .ok (.bipush 40, 2) := by decide +kernel
theorem dX5_init_39 : decode cX5_init 39 = .ok (.newarray .int, 2) := by decide +kernel
theorem dX5_init_41 : decode cX5_init 41 = .ok (.putfield 24, 3) := by decide +kernel
theorem dX5_init_44 : decode cX5_init 44 = .ok (.aload_n 0, 1) := by decide +kernel
theorem dX5_init_45 : decode cX5_init 45 = .ok (.bipush 40, 2) := by decide +kernel
theorem dX5_init_47 : decode cX5_init 47 = .ok (.newarray .int, 2) := by decide +kernel
theorem dX5_init_49 : decode cX5_init 49 = .ok (.putfield 27, 3) := by decide +kernel
theorem dX5_init_52 : decode cX5_init 52 = .ok (.aload_n 0, 1) := by decide +kernel
theorem dX5_init_53 : decode cX5_init 53 = .ok (.bipush 40, 2) := by decide +kernel
theorem dX5_init_55 : decode cX5_init 55 = .ok (.newarray .int, 2) := by decide +kernel
theorem dX5_init_57 : decode cX5_init 57 = .ok (.putfield 30, 3) := by decide +kernel
theorem dX5_init_60 : decode cX5_init 60 = .ok (.aload_n 0, 1) := by decide +kernel
theorem dX5_init_61 : decode cX5_init 61 = .ok (.bipush 40, 2) := by decide +kernel
theorem dX5_init_63 : decode cX5_init 63 = .ok (.newarray .int, 2) := by decide +kernel
theorem dX5_init_65 : decode cX5_init 65 = .ok (.putfield 33, 3) := by decide +kernel
theorem dX5_init_68 : decode cX5_init 68 = .ok (.aload_n 0, 1) := by decide +kernel
theorem dX5_init_69 : decode cX5_init 69 = .ok (.bipush 6, 2) := by decide +kernel
theorem dX5_init_71 : decode cX5_init 71 = .ok (.newarray .int, 2) := by decide +kernel
theorem dX5_init_73 : decode cX5_init 73 = .ok (.putfield 36, 3) := by decide +kernel
theorem dX5_init_76 : decode cX5_init 76 = .ok (.aload_n 0, 1) := by decide +kernel
theorem dX5_init_77 : decode cX5_init 77 = .ok (.bipush 6, 2) := by decide +kernel
theorem dX5_init_79 : decode cX5_init 79 = .ok (.newarray .int, 2) := by decide +kernel
theorem dX5_init_81 : decode cX5_init 81 = .ok (.putfield 39, 3) := by decide +kernel
theorem dX5_init_84 : decode cX5_init 84 = .ok (.aload_n 0, 1) := by decide +kernel
theorem dX5_init_85 : decode cX5_init 85 = .ok (.bipush 6, 2) := by decide +kernel
theorem dX5_init_87 : decode cX5_init 87 = .ok (.newarray .int, 2) := by decide +kernel
theorem dX5_init_89 : decode cX5_init 89 = .ok (.putfield 42, 3) := by decide +kernel
theorem dX5_init_92 : decode cX5_init 92 = .ok (.aload_n 0, 1) := by decide +kernel
theorem dX5_init_93 : decode cX5_init 93 = .ok (.iconst 4, 1) := by decide +kernel
theorem dX5_init_94 : decode cX5_init 94 = .ok (.newarray .int, 2) := by decide +kernel
theorem dX5_init_96 : decode cX5_init 96 = .ok (.putfield 45, 3) := by decide +kernel
theorem dX5_init_99 : decode cX5_init 99 = .ok (.aload_n 0, 1) := by decide +kernel
theorem dX5_init_100 : decode cX5_init 100 = .ok (.iconst 4, 1) := by decide +kernel
theorem dX5_init_101 : decode cX5_init 101 = .ok (.newarray .int, 2) := by decide +kernel
theorem dX5_init_103 : decode cX5_init 103 = .ok (.putfield 48, 3) := by decide +kernel
theorem dX5_init_106 : decode cX5_init 106 = .ok (.aload_n 0, 1) := by decide +kernel
theorem dX5_init_107 : decode cX5_init 107 = .ok (.aload_n 1, 1) := by decide +kernel
theorem dX5_init_108 : decode cX5_init 108 = .ok (.putfield 51, 3) := by decide +kernel
theorem dX5_init_111 : decode cX5_init 111 = .ok (.aload_n 0, 1) := by decide +kernel
theorem dX5_init_112 : decode cX5_init 112 = .ok (.aload_n 2, 1) := by decide +kernel
theorem dX5_init_113 : decode cX5_init 113 = .ok (.putfield 55, 3) := by decide +kernel
theorem dX5_init_116 : decode cX5_init 116 = .ok (.aload_n 0, 1) := by decide +kernel
theorem dX5_init_117 : decode cX5_init 117 = .ok (.getfield 9, 3) := by decide +kernel
theorem dX5_init_120 : decode cX5_init 120 = .ok (.iconst (-1), 1) := by decide +kernel
theorem dX5_init_121 : decode cX5_init 121 = .ok (.invokestatic 59, 3) := by decide +kernel
theorem dX5_init_124 : decode cX5_init 124 = .ok (.aload_n 0, 1) := by decide +kernel
theorem dX5_init_125 : decode cX5_init 125 = .ok (.getfield 15, 3) := by decide +kernel
theorem dX5_init_128 : decode cX5_init 128 = .ok (.iconst (-1), 1) := by decide +kernel
theorem dX5_init_129 : decode cX5_init 129 = .ok (.invokestatic 59, 3) := by decide +kernel
theorem dX5_init_132 : decode cX5_init 132 = .ok (.aload_n 0, 1) := by decide +kernel
theorem dX5_init_133 : decode cX5_init 133 = .ok (.getfield 21, 3) := by decide +kernel
theorem dX5_init_136 : decode cX5_init 136 = .ok (.iconst (-1), 1) := by decide +kernel
theorem dX5_init_137 : decode cX5_init 137 = .ok (.invokestatic 59, 3) := by decide +kernel
theorem dX5_init_140 : decode cX5_init 140 = .ok (.aload_n 0, 1) := by decide +kernel
theorem dX5_init_141 : decode cX5_init 141 = .ok (.getfield 24, 3) := by decide +kernel
theorem dX5_init_144 : decode cX5_init 144 = .ok (.iconst (-1), 1) := by decide +kernel
theorem dX5_init_145 : decode cX5_init 145 = .ok (.invokestatic 59, 3) := by decide +kernel
theorem dX5_init_148 : decode cX5_init 148 = .ok (.return_, 1) := by decide +kernel
theorem dX5_play_0 : decode cX5_play 0 = .ok (.aload_n 0, 1) := by decide +kernel
theorem dX5_play_1 : decode cX5_play 1 = .ok (.iload_n 1, 1) := by decide +kernel
theorem dX5_play_2 : decode cX5_play 2 = .ok (.putfield 65, 3) := by decide +kernel
theorem dX5_play_5 : decode cX5_play 5 = .ok (.aload_n 0, 1) := by decide +kernel
theorem dX5_play_6 : decode cX5_play 6 = .ok (.invokevirtual 69, 3) := by decide +kernel
theorem dX5_play_9 : decode cX5_play 9 = .ok (.aload_n 0, 1) := by decide +kernel
theorem dX5_play_10 : decode cX5_play 10 = .ok (.invokevirtual 72, 3) := by decide +kernel
theorem dX5_play_13 : decode cX5_play 13 = .ok (.iconst 0, 1) := by decide +kernel
theorem dX5_play_14 : decode cX5_play 14 = .ok (.istore_n 2, 1) := by decide +kernel
theorem dX5_play_15 : decode cX5_play 15 = .ok (.iload_n 2, 1) := by decide +kernel
theorem dX5_play_16 : decode cX5_play 16 = .ok (.sipush 200, 3) := by decide +kernel
theorem dX5_play_19 : decode cX5_play 19 = .ok (.if_icmp .ge 36, 3) := by decide +kernel
theorem dX5_play_22 : decode cX5_play 22 = .ok (.aload_n 0, 1) := by decide +kernel
theorem dX5_play_23 : decode cX5_play 23 = .ok (.getfield 75, 3) := by decide +kernel
theorem dX5_play_26 : decode cX5_play 26 = .ok (.ifCond .le 29, 3) := by decide +kernel
theorem dX5_play_29 : decode cX5_play 29 = .ok (.aload_n 0, 1) := by decide +kernel
theorem dX5_play_30 : decode cX5_play 30 = .ok (.iload_n 2, 1) := by decide +kernel
theorem dX5_play_31 : decode cX5_play 31 = .ok (.invokevirtual 78, 3) := by decide +kernel
theorem dX5_play_34 : decode cX5_play 34 = .ok (.aload_n 0, 1) := by decide +kernel
theorem dX5_play_35 : decode cX5_play 35 = .ok (.iload_n 2, 1) := by decide +kernel
theorem dX5_play_36 : decode cX5_play 36 = .ok (.invokevirtual 82, 3) := by decide +kernel
theorem dX5_play_39 : decode cX5_play 39 = .ok (.aload_n 0, 1) := by decide +kernel
theorem dX5_play_40 : decode cX5_play 40 = .ok (.iload_n 2, 1) := by decide +kernel
theorem dX5_play_41 : decode cX5_play 41 = .ok (.invokevirtual 85, 3) := by decide +kernel
theorem dX5_play_44 : decode cX5_play 44 = .ok (.aload_n 0, 1) := by decide +kernel
theorem dX5_play_45 : decode cX5_play 45 = .ok (.iload_n 2, 1) := by decide +kernel
theorem dX5_play_46 : decode cX5_play 46 = .ok (.invokevirtual 88, 3) := by decide +kernel
theorem dX5_play_49 : decode cX5_play 49 = .ok (.iinc 2 1, 3) := by decide +kernel
theorem dX5_play_52 : decode cX5_play 52 = .ok (.goto (-37), 3) := by decide +kernel
theorem dX5_play_55 : decode cX5_play 55 = .ok (.aload_n 0, 1) := by decide +kernel
theorem dX5_play_56 : decode cX5_play 56 = .ok (.aload_n 0, 1) := by decide +kernel
theorem dX5_play_57 : decode cX5_play 57 = .ok (.invokevirtual 91, 3) := by decide +kernel
theorem dX5_play_60 : decode cX5_play 60 = .ok (.aload_n 0, 1) := by decide +kernel
theorem dX5_play_61 : decode cX5_play 61 = .ok (.invokevirtual 95, 3) := by decide +kernel
theorem dX5_play_64 : decode cX5_play 64 = .ok (.iadd, 1) := by decide +kernel
theorem dX5_play_65 : decode cX5_play 65 = .ok (.aload_n 0, 1) := by decide +kernel
theorem dX5_play_66 : decode cX5_play 66 = .ok (.invokevirtual 98, 3) := by decide +kernel
theorem dX5_play_69 : decode cX5_play 69 = .ok (.iadd, 1) := by decide +kernel
theorem dX5_play_70 : decode cX5_play 70 = .ok (.bipush 100, 2) := by decide +kernel
theorem dX5_play_72 : decode cX5_play 72 = .ok (.aload_n 0, 1) := by decide +kernel
theorem dX5_play_73 : decode cX5_play 73 = .ok (.getfield 51, 3) := by decide +kernel
theorem dX5_play_76 : decode cX5_play 76 = .ok (.getfield 101, 3) := by decide +kernel
theorem dX5_play_79 : decode cX5_play 79 = .ok (.aload_n 0, 1) := by decide +kernel
theorem dX5_play_80 : decode cX5_play 80 = .ok (.invokevirtual 106, 3) := by decide +kernel
theorem dX5_play_83 : decode cX5_play 83 = .ok (.isub, 1) := by decide +kernel
theorem dX5_play_84 : decode cX5_play 84 = .ok (.imul, 1) := by decide +kernel
theorem dX5_play_85 : decode cX5_play 85 = .ok (.iadd, 1) := by decide +kernel
theorem dX5_play_86 : decode cX5_play 86 = .ok (.putfield 109, 3) := by decide +kernel
theorem dX5_play_89 : decode cX5_play 89 = .ok (.aload_n 0, 1) := by decide +kernel
theorem dX5_play_90 : decode cX5_play 90 = .ok (.getfield 109, 3) := by decide +kernel
theorem dX5_play_93 : decode cX5_play 93 = .ok (.ireturn, 1) := by decide +kernel
theorem dX5_clear_0 : decode cX5_clear 0 = .ok (.aload_n 0, 1) := by decide +kernel
theorem dX5_clear_1 : decode cX5_clear 1 = .ok (.getfield 9, 3) := by decide +kernel
theorem dX5_clear_4 : decode cX5_clear 4 = .ok (.iconst (-1), 1) := by decide +kernel
theorem dX5_clear_5 : decode cX5_clear 5 = .ok (.invokestatic 59, 3) := by decide +kernel
theorem dX5_clear_8 : decode cX5_clear 8 = .ok (.aload_n 0, 1) := by decide +kernel
theorem dX5_clear_9 : decode cX5_clear 9 = .ok (.getfield 15, 3) := by decide +kernel
theorem dX5_clear_12 : decode cX5_clear 12 = .ok (.iconst (-1), 1) := by decide +kernel
theorem dX5_clear_13 : decode cX5_clear 13 = .ok (.invokestatic 59, 3) := by decide +kernel
theorem dX5_clear_16 : decode cX5_clear 16 = .ok (.aload_n 0, 1) := by decide +kernel
theorem dX5_clear_17 : decode cX5_clear 17 = .ok (.getfield 18, 3) := by decide +kernel
theorem dX5_clear_20 : decode cX5_clear 20 = .ok (.iconst 0, 1) := by decide +kernel
theorem dX5_clear_21 : decode cX5_clear 21 = .ok (.invokestatic 59, 3) := by decide +kernel
theorem dX5_clear_24 : decode cX5_clear 24 = .ok (.aload_n 0, 1) := by decide +kernel
theorem dX5_clear_25 : decode cX5_clear 25 = .ok (.getfield 21, 3) := by decide +kernel
theorem dX5_clear_28 : decode cX5_clear 28 = .ok (.iconst (-1), 1) := by decide +kernel
theorem dX5_clear_29 : decode cX5_clear 29 = .ok (.invokestatic 59, 3) := by decide +kernel
theorem dX5_clear_32 : decode cX5_clear 32 = .ok (.aload_n 0, 1) := by decide +kernel
theorem dX5_clear_33 : decode cX5_clear 33 = .ok (.getfield 24, 3) := by decide +kernel
theorem dX5_clear_36 : decode cX5_clear 36 = .ok (.iconst (-1), 1) := by decide +kernel
theorem dX5_clear_37 : decode cX5_clear 37 = .ok (.invokestatic 59, 3) := by decide +kernel
theorem dX5_clear_40 : decode cX5_clear 40 = .ok (.aload_n 0, 1) := by decide +kernel
theorem dX5_clear_41 : decode cX5_clear 41 = .ok (.getfield 27, 3) := by decide +kernel
theorem dX5_clear_44 : decode cX5_clear 44 = .ok (.iconst (-1), 1) := by decide +kernel
theorem dX5_clear_45 : decode cX5_clear 45 = .ok (.invokestatic 59, 3) := by decide +kernel
theorem dX5_clear_48 : decode cX5_clear 48 = .ok (.aload_n 0, 1) := by decide +kernel
theorem dX5_clear_49 : decode cX5_clear 49 = .ok (.getfield 30, 3) := by decide +kernel
theorem dX5_clear_52 : decode cX5_clear 52 = .ok (.iconst (-1), 1) := by decide +kernel
theorem dX5_clear_53 : decode cX5_clear 53 = .ok (.invokestatic 59, 3) := by decide +kernel
theorem dX5_clear_56 : decode cX5_clear 56 = .ok (.aload_n 0, 1) := by decide +kernel
theorem dX5_clear_57 : decode cX5_clear 57 = .ok (.getfield 36, 3) := by decide +kernel
theorem dX5_clear_60 : decode cX5_clear 60 = .ok (.iconst (-1), 1) := by decide +kernel
theorem dX5_clear_61 : decode cX5_clear 61 = .ok (.invokestatic 59, 3) := by decide +kernel
theorem dX5_clear_64 : decode cX5_clear 64 = .ok (.aload_n 0, 1) := by decide +kernel
theorem dX5_clear_65 : decode cX5_clear 65 = .ok (.getfield 42, 3) := by decide +kernel
theorem dX5_clear_68 : decode cX5_clear 68 = .ok (.iconst 0, 1) := by decide +kernel
theorem dX5_clear_69 : decode cX5_clear 69 = .ok (.invokestatic 59, 3) := by decide +kernel
theorem dX5_clear_72 : decode cX5_clear 72 = .ok (.aload_n 0, 1) := by decide +kernel
theorem dX5_clear_73 : decode cX5_clear 73 = .ok (.getfield 45, 3) := by decide +kernel
theorem dX5_clear_76 : decode cX5_clear 76 = .ok (.iconst 0, 1) := by decide +kernel
theorem dX5_clear_77 : decode cX5_clear 77 = .ok (.invokestatic 59, 3) := by decide +kernel
theorem dX5_clear_80 : decode cX5_clear 80 = .ok (.aload_n 0, 1) := by decide +kernel
theorem dX5_clear_81 : decode cX5_clear 81 = .ok (.getfield 48, 3) := by decide +kernel
theorem dX5_clear_84 : decode cX5_clear 84 = .ok (.iconst 0, 1) := by decide +kernel
theorem dX5_clear_85 : decode cX5_clear 85 = .ok (.invokestatic 59, 3) := by decide +kernel
theorem dX5_clear_88 : decode cX5_clear 88 = .ok (.aload_n 0, 1) := by decide +kernel
theorem dX5_clear_89 : decode cX5_clear 89 = .ok (.iconst 0, 1) := by decide +kernel
theorem dX5_clear_90 : decode cX5_clear 90 = .ok (.putfield 112, 3) := by decide +kernel
theorem dX5_clear_93 : decode cX5_clear 93 = .ok (.aload_n 0, 1) := by decide +kernel
theorem dX5_clear_94 : decode cX5_clear 94 = .ok (.iconst 0, 1) := by decide +kernel
theorem dX5_clear_95 : decode cX5_clear 95 = .ok (.putfield 75, 3) := by decide +kernel
theorem dX5_clear_98 : decode cX5_clear 98 = .ok (.return_, 1) := by decide +kernel
theorem dX5_lineUp_0 : decode cX5_lineUp 0 = .ok (.iconst 0, 1) := by decide +kernel
theorem dX5_lineUp_1 : decode cX5_lineUp 1 = .ok (.istore_n 1, 1) := by decide +kernel
theorem dX5_lineUp_2 : decode cX5_lineUp 2 = .ok (.iload_n 1, 1) := by decide +kernel
theorem dX5_lineUp_3 : decode cX5_lineUp 3 = .ok (.aload_n 0, 1) := by decide +kernel
theorem dX5_lineUp_4 : decode cX5_lineUp 4 = .ok (.getfield 51, 3) := by decide +kernel
theorem dX5_lineUp_7 : decode cX5_lineUp 7 = .ok (.getfield 115, 3) := by decide +kernel
theorem dX5_lineUp_10 : decode cX5_lineUp 10 = .ok (.if_icmp .ge 24, 3) := by decide +kernel
theorem dX5_lineUp_13 : decode cX5_lineUp 13 = .ok (.aload_n 0, 1) := by decide +kernel
theorem dX5_lineUp_14 : decode cX5_lineUp 14 = .ok (.getfield 39, 3) := by decide +kernel
theorem dX5_lineUp_17 : decode cX5_lineUp 17 = .ok (.iload_n 1, 1) := by decide +kernel
theorem dX5_lineUp_18 : decode cX5_lineUp 18 = .ok (.aload_n 0, 1) := by decide +kernel
theorem dX5_lineUp_19 : decode cX5_lineUp 19 = .ok (.getfield 55, 3) := by decide +kernel
theorem dX5_lineUp_22 : decode cX5_lineUp 22 = .ok (.iload_n 1, 1) := by decide +kernel
theorem dX5_lineUp_23 : decode cX5_lineUp 23 = .ok (.iconst 0, 1) := by decide +kernel
theorem dX5_lineUp_24 : decode cX5_lineUp 24 = .ok (.invokevirtual 118, 3) := by decide +kernel
theorem dX5_lineUp_27 : decode cX5_lineUp 27 = .ok (.iastore, 1) := by decide +kernel
theorem dX5_lineUp_28 : decode cX5_lineUp 28 = .ok (.iinc 1 1, 3) := by decide +kernel
theorem dX5_lineUp_31 : decode cX5_lineUp 31 = .ok (.goto (-29), 3) := by decide +kernel
theorem dX5_lineUp_34 : decode cX5_lineUp 34 = .ok (.iconst 0, 1) := by decide +kernel
theorem dX5_lineUp_35 : decode cX5_lineUp 35 = .ok (.istore_n 1, 1) := by decide +kernel
theorem dX5_lineUp_36 : decode cX5_lineUp 36 = .ok (.iload_n 1, 1) := by decide +kernel
theorem dX5_lineUp_37 : decode cX5_lineUp 37 = .ok (.aload_n 0, 1) := by decide +kernel
theorem dX5_lineUp_38 : decode cX5_lineUp 38 = .ok (.getfield 51, 3) := by decide +kernel
theorem dX5_lineUp_41 : decode cX5_lineUp 41 = .ok (.getfield 124, 3) := by decide +kernel
theorem dX5_lineUp_44 : decode cX5_lineUp 44 = .ok (.if_icmp .ge 30, 3) := by decide +kernel
theorem dX5_lineUp_47 : decode cX5_lineUp 47 = .ok (.aload_n 0, 1) := by decide +kernel
theorem dX5_lineUp_48 : decode cX5_lineUp 48 = .ok (.getfield 55, 3) := by decide +kernel
theorem dX5_lineUp_51 : decode cX5_lineUp 51 = .ok (.iload_n 1, 1) := by decide +kernel
theorem dX5_lineUp_52 : decode cX5_lineUp 52 = .ok (.invokevirtual 127, 3) := by decide +kernel
theorem dX5_lineUp_55 : decode cX5_lineUp 55 = .ok (.ifCond .eq 13, 3) := by decide +kernel
theorem dX5_lineUp_58 : decode cX5_lineUp 58 = .ok (.aload_n 0, 1) := by decide +kernel
theorem dX5_lineUp_59 : decode cX5_lineUp 59 = .ok (.dup, 1) := by decide +kernel
theorem dX5_lineUp_60 : decode cX5_lineUp 60 = .ok (.getfield 75, 3) := by decide +kernel
theorem dX5_lineUp_63 : decode cX5_lineUp 63 = .ok (.iconst 1, 1) := by decide +kernel
theorem dX5_lineUp_64 : decode cX5_lineUp 64 = .ok (.iadd, 1) := by decide +kernel
theorem dX5_lineUp_65 : decode cX5_lineUp 65 = .ok (.putfield 75, 3) := by decide +kernel
theorem dX5_lineUp_68 : decode cX5_lineUp 68 = .ok (.iinc 1 1, 3) := by decide +kernel
theorem dX5_lineUp_71 : decode cX5_lineUp 71 = .ok (.goto (-35), 3) := by decide +kernel
theorem dX5_lineUp_74 : decode cX5_lineUp 74 = .ok (.iconst 0, 1) := by decide +kernel
theorem dX5_lineUp_75 : decode cX5_lineUp 75 = .ok (.istore_n 1, 1) := by decide +kernel
theorem dX5_lineUp_76 : decode cX5_lineUp 76 = .ok (.iload_n 1, 1) := by decide +kernel
theorem dX5_lineUp_77 : decode cX5_lineUp 77 = .ok (.aload_n 0, 1) := by decide +kernel
theorem dX5_lineUp_78 : decode cX5_lineUp 78 = .ok (.getfield 51, 3) := by decide +kernel
theorem dX5_lineUp_81 : decode cX5_lineUp 81 = .ok (.getfield 101, 3) := by decide +kernel
theorem dX5_lineUp_84 : decode cX5_lineUp 84 = .ok (.if_icmp .ge 45, 3) := by decide +kernel
theorem dX5_lineUp_87 : decode cX5_lineUp 87 = .ok (.aload_n 0, 1) := by decide +kernel
theorem dX5_lineUp_88 : decode cX5_lineUp 88 = .ok (.getfield 55, 3) := by decide +kernel
theorem dX5_lineUp_91 : decode cX5_lineUp 91 = .ok (.aload_n 0, 1) := by decide +kernel
theorem dX5_lineUp_92 : decode cX5_lineUp 92 = .ok (.getfield 51, 3) := by decide +kernel
theorem dX5_lineUp_95 : decode cX5_lineUp 95 = .ok (.getfield 131, 3) := by decide +kernel
theorem dX5_lineUp_98 : decode cX5_lineUp 98 = .ok (.iload_n 1, 1) := by decide +kernel
theorem dX5_lineUp_99 : decode cX5_lineUp 99 = .ok (.iaload, 1) := by decide +kernel
theorem dX5_lineUp_100 : decode cX5_lineUp 100 = .ok (.invokevirtual 127, 3) := by decide +kernel
theorem dX5_lineUp_103 : decode cX5_lineUp 103 = .ok (.ifCond .eq 20, 3) := by decide +kernel
theorem dX5_lineUp_106 : decode cX5_lineUp 106 = .ok (.aload_n 0, 1) := by decide +kernel
theorem dX5_lineUp_107 : decode cX5_lineUp 107 = .ok (.getfield 48, 3) := by decide +kernel
theorem dX5_lineUp_110 : decode cX5_lineUp 110 = .ok (.aload_n 0, 1) := by decide +kernel
theorem dX5_lineUp_111 : decode cX5_lineUp 111 = .ok (.getfield 51, 3) := by decide +kernel
theorem dX5_lineUp_114 : decode cX5_lineUp 114 = .ok (.getfield 134, 3) := by decide +kernel
theorem dX5_lineUp_117 : decode cX5_lineUp 117 = .ok (.iload_n 1, 1) := by decide +kernel
theorem dX5_lineUp_118 : decode cX5_lineUp 118 = .ok (.iaload, 1) := by decide +kernel
theorem dX5_lineUp_119 : decode cX5_lineUp 119 = .ok (.iconst 1, 1) := by decide +kernel
theorem dX5_lineUp_120 : decode cX5_lineUp 120 = .ok (.invokestatic 137, 3) := by decide +kernel
theorem dX5_lineUp_123 : decode cX5_lineUp 123 = .ok (.iinc 1 1, 3) := by decide +kernel
theorem dX5_lineUp_126 : decode cX5_lineUp 126 = .ok (.goto (-50), 3) := by decide +kernel
theorem dX5_lineUp_129 : decode cX5_lineUp 129 = .ok (.return_, 1) := by decide +kernel
theorem dX5_add_0 : decode cX5_add 0 = .ok (.iload_n 1, 1) := by decide +kernel
theorem dX5_add_1 : decode cX5_add 1 = .ok (.ifCond .lt 16, 3) := by decide +kernel
theorem dX5_add_4 : decode cX5_add 4 = .ok (.iload_n 1, 1) := by decide +kernel
theorem dX5_add_5 : decode cX5_add 5 = .ok (.aload_n 0, 1) := by decide +kernel
theorem dX5_add_6 : decode cX5_add 6 = .ok (.arraylength, 1) := by decide +kernel
theorem dX5_add_7 : decode cX5_add 7 = .ok (.if_icmp .ge 10, 3) := by decide +kernel
theorem dX5_add_10 : decode cX5_add 10 = .ok (.aload_n 0, 1) := by decide +kernel
theorem dX5_add_11 : decode cX5_add 11 = .ok (.iload_n 1, 1) := by decide +kernel
theorem dX5_add_12 : decode cX5_add 12 = .ok (.dup2, 1) := by decide +kernel
theorem dX5_add_13 : decode cX5_add 13 = .ok (.iaload, 1) := by decide +kernel
theorem dX5_add_14 : decode cX5_add 14 = .ok (.iload_n 2, 1) := by decide +kernel
theorem dX5_add_15 : decode cX5_add 15 = .ok (.iadd, 1) := by decide +kernel
theorem dX5_add_16 : decode cX5_add 16 = .ok (.iastore, 1) := by decide +kernel
theorem dX5_add_17 : decode cX5_add 17 = .ok (.return_, 1) := by decide +kernel
theorem dX5_manyOf_0 : decode cX5_manyOf 0 = .ok (.iload_n 1, 1) := by decide +kernel
theorem dX5_manyOf_1 : decode cX5_manyOf 1 = .ok (.ifCond .lt 15, 3) := by decide +kernel
theorem dX5_manyOf_4 : decode cX5_manyOf 4 = .ok (.iload_n 1, 1) := by decide +kernel
theorem dX5_manyOf_5 : decode cX5_manyOf 5 = .ok (.aload_n 0, 1) := by decide +kernel
theorem dX5_manyOf_6 : decode cX5_manyOf 6 = .ok (.arraylength, 1) := by decide +kernel
theorem dX5_manyOf_7 : decode cX5_manyOf 7 = .ok (.if_icmp .ge 9, 3) := by decide +kernel
theorem dX5_manyOf_10 : decode cX5_manyOf 10 = .ok (.aload_n 0, 1) := by decide +kernel
theorem dX5_manyOf_11 : decode cX5_manyOf 11 = .ok (.iload_n 1, 1) := by decide +kernel
theorem dX5_manyOf_12 : decode cX5_manyOf 12 = .ok (.iaload, 1) := by decide +kernel
theorem dX5_manyOf_13 : decode cX5_manyOf 13 = .ok (.goto 4, 3) := by decide +kernel
theorem dX5_manyOf_16 : decode cX5_manyOf 16 = .ok (.iconst 0, 1) := by decide +kernel
theorem dX5_manyOf_17 : decode cX5_manyOf 17 = .ok (.ireturn, 1) := by decide +kernel
theorem dX5_letDock_0 : decode cX5_letDock 0 = .ok (.iconst 0, 1) := by decide +kernel
theorem dX5_letDock_1 : decode cX5_letDock 1 = .ok (.istore_n 2, 1) := by decide +kernel
theorem dX5_letDock_2 : decode cX5_letDock 2 = .ok (.iload_n 2, 1) := by decide +kernel
theorem dX5_letDock_3 : decode cX5_letDock 3 = .ok (.aload_n 0, 1) := by decide +kernel
theorem dX5_letDock_4 : decode cX5_letDock 4 = .ok (.getfield 51, 3) := by decide +kernel
theorem dX5_letDock_7 : decode cX5_letDock 7 = .ok (.getfield 115, 3) := by decide +kernel
theorem dX5_letDock_10 : decode cX5_letDock 10 = .ok (.if_icmp .ge 111, 3) := by decide +kernel
theorem dX5_letDock_13 : decode cX5_letDock 13 = .ok (.aload_n 0, 1) := by decide +kernel
theorem dX5_letDock_14 : decode cX5_letDock 14 = .ok (.getfield 39, 3) := by decide +kernel
theorem dX5_letDock_17 : decode cX5_letDock 17 = .ok (.iload_n 2, 1) := by decide +kernel
theorem dX5_letDock_18 : decode cX5_letDock 18 = .ok (.iaload, 1) := by decide +kernel
theorem dX5_letDock_19 : decode cX5_letDock 19 = .ok (.istore_n 3, 1) := by decide +kernel
theorem dX5_letDock_20 : decode cX5_letDock 20 = .ok (.aload_n 0, 1) := by decide +kernel
theorem dX5_letDock_21 : decode cX5_letDock 21 = .ok (.getfield 36, 3) := by decide +kernel
theorem dX5_letDock_24 : decode cX5_letDock 24 = .ok (.iload_n 2, 1) := by decide +kernel
theorem dX5_letDock_25 : decode cX5_letDock 25 = .ok (.iaload, 1) := by decide +kernel
theorem dX5_letDock_26 : decode cX5_letDock 26 = .ok (.iconst (-1), 1) := by decide +kernel
theorem dX5_letDock_27 : decode cX5_letDock 27 = .ok (.if_icmp .ne 17, 3) := by decide +kernel
theorem dX5_letDock_30 : decode cX5_letDock 30 = .ok (.aload_n 0, 1) := by decide +kernel
theorem dX5_letDock_31 : decode cX5_letDock 31 = .ok (.getfield 42, 3) := by decide +kernel
theorem dX5_letDock_34 : decode cX5_letDock 34 = .ok (.iload_n 2, 1) := by decide +kernel
theorem dX5_letDock_35 : decode cX5_letDock 35 = .ok (.iaload, 1) := by decide +kernel
theorem dX5_letDock_36 : decode cX5_letDock 36 = .ok (.iload_n 1, 1) := by decide +kernel
theorem dX5_letDock_37 : decode cX5_letDock 37 = .ok (.if_icmp .gt 7, 3) := by decide +kernel
theorem dX5_letDock_40 : decode cX5_letDock 40 = .ok (.iconst 1, 1) := by decide +kernel
theorem dX5_letDock_41 : decode cX5_letDock 41 = .ok (.goto 4, 3) := by decide +kernel
theorem dX5_letDock_44 : decode cX5_letDock 44 = .ok (.iconst 0, 1) := by decide +kernel
theorem dX5_letDock_45 : decode cX5_letDock 45 = .ok (.istore 4, 2) := by decide +kernel
theorem dX5_letDock_47 : decode cX5_letDock 47 = .ok (.iload 4, 2) := by decide +kernel
theorem dX5_letDock_49 : decode cX5_letDock 49 = .ok (.ifCond .eq 66, 3) := by decide +kernel
theorem dX5_letDock_52 : decode cX5_letDock 52 = .ok (.aload_n 0, 1) := by decide +kernel
theorem dX5_letDock_53 : decode cX5_letDock 53 = .ok (.getfield 51, 3) := by decide +kernel
theorem dX5_letDock_56 : decode cX5_letDock 56 = .ok (.iload_n 3, 1) := by decide +kernel
theorem dX5_letDock_57 : decode cX5_letDock 57 = .ok (.invokevirtual 141, 3) := by decide +kernel
theorem dX5_letDock_60 : decode cX5_letDock 60 = .ok (.ifCond .eq 55, 3) := by decide +kernel
theorem dX5_letDock_63 : decode cX5_letDock 63 = .ok (.aload_n 0, 1) := by decide +kernel
theorem dX5_letDock_64 : decode cX5_letDock 64 = .ok (.getfield 55, 3) := by decide +kernel
theorem dX5_letDock_67 : decode cX5_letDock 67 = .ok (.getfield 144, 3) := by decide +kernel
theorem dX5_letDock_70 : decode cX5_letDock 70 = .ok (.iload_n 3, 1) := by decide +kernel
theorem dX5_letDock_71 : decode cX5_letDock 71 = .ok (.iaload, 1) := by decide +kernel
theorem dX5_letDock_72 : decode cX5_letDock 72 = .ok (.iload_n 1, 1) := by decide +kernel
theorem dX5_letDock_73 : decode cX5_letDock 73 = .ok (.if_icmp .gt 42, 3) := by decide +kernel
theorem dX5_letDock_76 : decode cX5_letDock 76 = .ok (.aload_n 0, 1) := by decide +kernel
theorem dX5_letDock_77 : decode cX5_letDock 77 = .ok (.getfield 36, 3) := by decide +kernel
theorem dX5_letDock_80 : decode cX5_letDock 80 = .ok (.iload_n 2, 1) := by decide +kernel
theorem dX5_letDock_81 : decode cX5_letDock 81 = .ok (.iload_n 3, 1) := by decide +kernel
theorem dX5_letDock_82 : decode cX5_letDock 82 = .ok (.iastore, 1) := by decide +kernel
theorem dX5_letDock_83 : decode cX5_letDock 83 = .ok (.aload_n 0, 1) := by decide +kernel
theorem dX5_letDock_84 : decode cX5_letDock 84 = .ok (.getfield 9, 3) := by decide +kernel
theorem dX5_letDock_87 : decode cX5_letDock 87 = .ok (.iload_n 3, 1) := by decide +kernel
theorem dX5_letDock_88 : decode cX5_letDock 88 = .ok (.iload_n 1, 1) := by decide +kernel
theorem dX5_letDock_89 : decode cX5_letDock 89 = .ok (.iastore, 1) := by decide +kernel
theorem dX5_letDock_90 : decode cX5_letDock 90 = .ok (.aload_n 0, 1) := by decide +kernel
theorem dX5_letDock_91 : decode cX5_letDock 91 = .ok (.getfield 39, 3) := by decide +kernel
theorem dX5_letDock_94 : decode cX5_letDock 94 = .ok (.iload_n 2, 1) := by decide +kernel
theorem dX5_letDock_95 : decode cX5_letDock 95 = .ok (.aload_n 0, 1) := by decide +kernel
theorem dX5_letDock_96 : decode cX5_letDock 96 = .ok (.getfield 55, 3) := by decide +kernel
theorem dX5_letDock_99 : decode cX5_letDock 99 = .ok (.iload_n 2, 1) := by decide +kernel
theorem dX5_letDock_100 : decode cX5_letDock 100 = .ok (.aload_n 0, 1) := by decide +kernel
theorem dX5_letDock_101 : decode cX5_letDock 101 = .ok (.getfield 55, 3) := by decide +kernel
theorem dX5_letDock_104 : decode cX5_letDock 104 = .ok (.getfield 147, 3) := by decide +kernel
theorem dX5_letDock_107 : decode cX5_letDock 107 = .ok (.iload_n 3, 1) := by decide +kernel
theorem dX5_letDock_108 : decode cX5_letDock 108 = .ok (.iaload, 1) := by decide +kernel
theorem dX5_letDock_109 : decode cX5_letDock 109 = .ok (.iconst 1, 1) := by decide +kernel
theorem dX5_letDock_110 : decode cX5_letDock 110 = .ok (.iadd, 1) := by decide +kernel
theorem dX5_letDock_111 : decode cX5_letDock 111 = .ok (.invokevirtual 118, 3) := by decide +kernel
theorem dX5_letDock_114 : decode cX5_letDock 114 = .ok (.iastore, 1) := by decide +kernel
theorem dX5_letDock_115 : decode cX5_letDock 115 = .ok (.iinc 2 1, 3) := by decide +kernel
theorem dX5_letDock_118 : decode cX5_letDock 118 = .ok (.goto (-116), 3) := by decide +kernel
theorem dX5_letDock_121 : decode cX5_letDock 121 = .ok (.return_, 1) := by decide +kernel
theorem dX5_putOn_0 : decode cX5_putOn 0 = .ok (.iconst 0, 1) := by decide +kernel
theorem dX5_putOn_1 : decode cX5_putOn 1 = .ok (.istore_n 2, 1) := by decide +kernel
theorem dX5_putOn_2 : decode cX5_putOn 2 = .ok (.iload_n 2, 1) := by decide +kernel
theorem dX5_putOn_3 : decode cX5_putOn 3 = .ok (.aload_n 0, 1) := by decide +kernel
theorem dX5_putOn_4 : decode cX5_putOn 4 = .ok (.getfield 51, 3) := by decide +kernel
theorem dX5_putOn_7 : decode cX5_putOn 7 = .ok (.getfield 115, 3) := by decide +kernel
theorem dX5_putOn_10 : decode cX5_putOn 10 = .ok (.if_icmp .ge 78, 3) := by decide +kernel
theorem dX5_putOn_13 : decode cX5_putOn 13 = .ok (.aload_n 0, 1) := by decide +kernel
theorem dX5_putOn_14 : decode cX5_putOn 14 = .ok (.getfield 36, 3) := by decide +kernel
theorem dX5_putOn_17 : decode cX5_putOn 17 = .ok (.iload_n 2, 1) := by decide +kernel
theorem dX5_putOn_18 : decode cX5_putOn 18 = .ok (.iaload, 1) := by decide +kernel
theorem dX5_putOn_19 : decode cX5_putOn 19 = .ok (.istore_n 3, 1) := by decide +kernel
theorem dX5_putOn_20 : decode cX5_putOn 20 = .ok (.aload_n 0, 1) := by decide +kernel
theorem dX5_putOn_21 : decode cX5_putOn 21 = .ok (.getfield 51, 3) := by decide +kernel
theorem dX5_putOn_24 : decode cX5_putOn 24 = .ok (.getfield 150, 3) := by decide +kernel
theorem dX5_putOn_27 : decode cX5_putOn 27 = .ok (.iload_n 2, 1) := by decide +kernel
theorem dX5_putOn_28 : decode cX5_putOn 28 = .ok (.iaload, 1) := by decide +kernel
theorem dX5_putOn_29 : decode cX5_putOn 29 = .ok (.iconst 1, 1) := by decide +kernel
theorem dX5_putOn_30 : decode cX5_putOn 30 = .ok (.if_icmp .ne 52, 3) := by decide +kernel
theorem dX5_putOn_33 : decode cX5_putOn 33 = .ok (.aload_n 0, 1) := by decide +kernel
theorem dX5_putOn_34 : decode cX5_putOn 34 = .ok (.getfield 51, 3) := by decide +kernel
theorem dX5_putOn_37 : decode cX5_putOn 37 = .ok (.iload_n 3, 1) := by decide +kernel
theorem dX5_putOn_38 : decode cX5_putOn 38 = .ok (.invokevirtual 141, 3) := by decide +kernel
theorem dX5_putOn_41 : decode cX5_putOn 41 = .ok (.ifCond .eq 41, 3) := by decide +kernel
theorem dX5_putOn_44 : decode cX5_putOn 44 = .ok (.aload_n 0, 1) := by decide +kernel
theorem dX5_putOn_45 : decode cX5_putOn 45 = .ok (.iload_n 2, 1) := by decide +kernel
theorem dX5_putOn_46 : decode cX5_putOn 46 = .ok (.aload_n 0, 1) := by decide +kernel
theorem dX5_putOn_47 : decode cX5_putOn 47 = .ok (.getfield 51, 3) := by decide +kernel
theorem dX5_putOn_50 : decode cX5_putOn 50 = .ok (.getfield 153, 3) := by decide +kernel
theorem dX5_putOn_53 : decode cX5_putOn 53 = .ok (.iload_n 3, 1) := by decide +kernel
theorem dX5_putOn_54 : decode cX5_putOn 54 = .ok (.iaload, 1) := by decide +kernel
theorem dX5_putOn_55 : decode cX5_putOn 55 = .ok (.iload_n 1, 1) := by decide +kernel
theorem dX5_putOn_56 : decode cX5_putOn 56 = .ok (.invokevirtual 156, 3) := by decide +kernel
theorem dX5_putOn_59 : decode cX5_putOn 59 = .ok (.istore 4, 2) := by decide +kernel
theorem dX5_putOn_61 : decode cX5_putOn 61 = .ok (.aload_n 0, 1) := by decide +kernel
theorem dX5_putOn_62 : decode cX5_putOn 62 = .ok (.getfield 51, 3) := by decide +kernel
theorem dX5_putOn_65 : decode cX5_putOn 65 = .ok (.iload 4, 2) := by decide +kernel
theorem dX5_putOn_67 : decode cX5_putOn 67 = .ok (.invokevirtual 160, 3) := by decide +kernel
theorem dX5_putOn_70 : decode cX5_putOn 70 = .ok (.ifCond .eq 12, 3) := by decide +kernel
theorem dX5_putOn_73 : decode cX5_putOn 73 = .ok (.aload_n 0, 1) := by decide +kernel
theorem dX5_putOn_74 : decode cX5_putOn 74 = .ok (.iload 4, 2) := by decide +kernel
theorem dX5_putOn_76 : decode cX5_putOn 76 = .ok (.iload_n 3, 1) := by decide +kernel
theorem dX5_putOn_77 : decode cX5_putOn 77 = .ok (.iload_n 2, 1) := by decide +kernel
theorem dX5_putOn_78 : decode cX5_putOn 78 = .ok (.iload_n 1, 1) := by decide +kernel
theorem dX5_putOn_79 : decode cX5_putOn 79 = .ok (.invokevirtual 163, 3) := by decide +kernel
theorem dX5_putOn_82 : decode cX5_putOn 82 = .ok (.iinc 2 1, 3) := by decide +kernel
theorem dX5_putOn_85 : decode cX5_putOn 85 = .ok (.goto (-83), 3) := by decide +kernel
theorem dX5_putOn_88 : decode cX5_putOn 88 = .ok (.return_, 1) := by decide +kernel
theorem dX5_firstReady_0 : decode cX5_firstReady 0 = .ok (.iconst (-1), 1) := by decide +kernel
theorem dX5_firstReady_1 : decode cX5_firstReady 1 = .ok (.istore 4, 2) := by decide +kernel
theorem dX5_firstReady_3 : decode cX5_firstReady 3 = .ok (.aload_n 0, 1) := by decide +kernel
theorem dX5_firstReady_4 : decode cX5_firstReady 4 = .ok (.getfield 45, 3) := by decide +kernel
theorem dX5_firstReady_7 : decode cX5_firstReady 7 = .ok (.iload_n 2, 1) := by decide +kernel
theorem dX5_firstReady_8 : decode cX5_firstReady 8 = .ok (.invokestatic 167, 3) := by decide +kernel
theorem dX5_firstReady_11 : decode cX5_firstReady 11 = .ok (.ifCond .ne 5, 3) := by decide +kernel
theorem dX5_firstReady_14 : decode cX5_firstReady 14 = .ok (.iconst (-1), 1) := by decide +kernel
theorem dX5_firstReady_15 : decode cX5_firstReady 15 = .ok (.ireturn, 1) := by decide +kernel
theorem dX5_firstReady_16 : decode cX5_firstReady 16 = .ok (.iconst 0, 1) := by decide +kernel
theorem dX5_firstReady_17 : decode cX5_firstReady 17 = .ok (.istore 5, 2) := by decide +kernel
theorem dX5_firstReady_19 : decode cX5_firstReady 19 = .ok (.iload 5, 2) := by decide +kernel
theorem dX5_firstReady_21 : decode cX5_firstReady 21 = .ok (.aload_n 0, 1) := by decide +kernel
theorem dX5_firstReady_22 : decode cX5_firstReady 22 = .ok (.getfield 51, 3) := by decide +kernel
theorem dX5_firstReady_25 : decode cX5_firstReady 25 = .ok (.getfield 101, 3) := by decide +kernel
theorem dX5_firstReady_28 : decode cX5_firstReady 28 = .ok (.if_icmp .ge 123, 3) := by decide +kernel
theorem dX5_firstReady_31 : decode cX5_firstReady 31 = .ok (.aload_n 0, 1) := by decide +kernel
theorem dX5_firstReady_32 : decode cX5_firstReady 32 = .ok (.getfield 51, 3) := by decide +kernel
theorem dX5_firstReady_35 : decode cX5_firstReady 35 = .ok (.getfield 134, 3) := by decide +kernel
theorem dX5_firstReady_38 : decode cX5_firstReady 38 = .ok (.iload 5, 2) := by decide +kernel
theorem dX5_firstReady_40 : decode cX5_firstReady 40 = .ok (.iaload, 1) := by decide +kernel
theorem dX5_firstReady_41 : decode cX5_firstReady 41 = .ok (.iload_n 2, 1) := by decide +kernel
theorem dX5_firstReady_42 : decode cX5_firstReady 42 = .ok (.if_icmp .ne 29, 3) := by decide +kernel
theorem dX5_firstReady_45 : decode cX5_firstReady 45 = .ok (.aload_n 0, 1) := by decide +kernel
theorem dX5_firstReady_46 : decode cX5_firstReady 46 = .ok (.getfield 21, 3) := by decide +kernel
theorem dX5_firstReady_49 : decode cX5_firstReady 49 = .ok (.iload 5, 2) := by decide +kernel
theorem dX5_firstReady_51 : decode cX5_firstReady 51 = .ok (.iaload, 1) := by decide +kernel
theorem dX5_firstReady_52 : decode cX5_firstReady 52 = .ok (.iconst (-1), 1) := by decide +kernel
theorem dX5_firstReady_53 : decode cX5_firstReady 53 = .ok (.if_icmp .eq 18, 3) := by decide +kernel
theorem dX5_firstReady_56 : decode cX5_firstReady 56 = .ok (.aload_n 0, 1) := by decide +kernel
theorem dX5_firstReady_57 : decode cX5_firstReady 57 = .ok (.getfield 24, 3) := by decide +kernel
theorem dX5_firstReady_60 : decode cX5_firstReady 60 = .ok (.iload 5, 2) := by decide +kernel
theorem dX5_firstReady_62 : decode cX5_firstReady 62 = .ok (.iaload, 1) := by decide +kernel
theorem dX5_firstReady_63 : decode cX5_firstReady 63 = .ok (.iconst (-1), 1) := by decide +kernel
theorem dX5_firstReady_64 : decode cX5_firstReady 64 = .ok (.if_icmp .ne 7, 3) := by decide +kernel
theorem dX5_firstReady_67 : decode cX5_firstReady 67 = .ok (.iconst 1, 1) := by decide +kernel
theorem dX5_firstReady_68 : decode cX5_firstReady 68 = .ok (.goto 4, 3) := by decide +kernel
theorem dX5_firstReady_71 : decode cX5_firstReady 71 = .ok (.iconst 0, 1) := by decide +kernel
theorem dX5_firstReady_72 : decode cX5_firstReady 72 = .ok (.istore 6, 2) := by decide +kernel
theorem dX5_firstReady_74 : decode cX5_firstReady 74 = .ok (.iload 6, 2) := by decide +kernel
theorem dX5_firstReady_76 : decode cX5_firstReady 76 = .ok (.ifCond .eq 69, 3) := by decide +kernel
theorem dX5_firstReady_79 : decode cX5_firstReady 79 = .ok (.iload 4, 2) := by decide +kernel
theorem dX5_firstReady_81 : decode cX5_firstReady 81 = .ok (.iconst (-1), 1) := by decide +kernel
theorem dX5_firstReady_82 : decode cX5_firstReady 82 = .ok (.if_icmp .eq 20, 3) := by decide +kernel
theorem dX5_firstReady_85 : decode cX5_firstReady 85 = .ok (.aload_n 0, 1) := by decide +kernel
theorem dX5_firstReady_86 : decode cX5_firstReady 86 = .ok (.getfield 21, 3) := by decide +kernel
theorem dX5_firstReady_89 : decode cX5_firstReady 89 = .ok (.iload 5, 2) := by decide +kernel
theorem dX5_firstReady_91 : decode cX5_firstReady 91 = .ok (.iaload, 1) := by decide +kernel
theorem dX5_firstReady_92 : decode cX5_firstReady 92 = .ok (.aload_n 0, 1) := by decide +kernel
theorem dX5_firstReady_93 : decode cX5_firstReady 93 = .ok (.getfield 21, 3) := by decide +kernel
theorem dX5_firstReady_96 : decode cX5_firstReady 96 = .ok (.iload 4, 2) := by decide +kernel
theorem dX5_firstReady_98 : decode cX5_firstReady 98 = .ok (.iaload, 1) := by decide +kernel
theorem dX5_firstReady_99 : decode cX5_firstReady 99 = .ok (.if_icmp .ge 46, 3) := by decide +kernel
theorem dX5_firstReady_102 : decode cX5_firstReady 102 = .ok (.aload_n 0, 1) := by decide +kernel
theorem dX5_firstReady_103 : decode cX5_firstReady 103 = .ok (.getfield 33, 3) := by decide +kernel
theorem dX5_firstReady_106 : decode cX5_firstReady 106 = .ok (.iload 5, 2) := by decide +kernel
theorem dX5_firstReady_108 : decode cX5_firstReady 108 = .ok (.iaload, 1) := by decide +kernel
theorem dX5_firstReady_109 : decode cX5_firstReady 109 = .ok (.aload_n 0, 1) := by decide +kernel
theorem dX5_firstReady_110 : decode cX5_firstReady 110 = .ok (.getfield 51, 3) := by decide +kernel
theorem dX5_firstReady_113 : decode cX5_firstReady 113 = .ok (.getfield 171, 3) := by decide +kernel
theorem dX5_firstReady_116 : decode cX5_firstReady 116 = .ok (.iload_n 1, 1) := by decide +kernel
theorem dX5_firstReady_117 : decode cX5_firstReady 117 = .ok (.iaload, 1) := by decide +kernel
theorem dX5_firstReady_118 : decode cX5_firstReady 118 = .ok (.invokestatic 174, 3) := by decide +kernel
theorem dX5_firstReady_121 : decode cX5_firstReady 121 = .ok (.istore 7, 2) := by decide +kernel
theorem dX5_firstReady_123 : decode cX5_firstReady 123 = .ok (.iload_n 3, 1) := by decide +kernel
theorem dX5_firstReady_124 : decode cX5_firstReady 124 = .ok (.aload_n 0, 1) := by decide +kernel
theorem dX5_firstReady_125 : decode cX5_firstReady 125 = .ok (.getfield 21, 3) := by decide +kernel
theorem dX5_firstReady_128 : decode cX5_firstReady 128 = .ok (.iload 5, 2) := by decide +kernel
theorem dX5_firstReady_130 : decode cX5_firstReady 130 = .ok (.iaload, 1) := by decide +kernel
theorem dX5_firstReady_131 : decode cX5_firstReady 131 = .ok (.isub, 1) := by decide +kernel
theorem dX5_firstReady_132 : decode cX5_firstReady 132 = .ok (.iload 7, 2) := by decide +kernel
theorem dX5_firstReady_134 : decode cX5_firstReady 134 = .ok (.iconst 1, 1) := by decide +kernel
theorem dX5_firstReady_135 : decode cX5_firstReady 135 = .ok (.invokestatic 177, 3) := by decide +kernel
theorem dX5_firstReady_138 : decode cX5_firstReady 138 = .ok (.if_icmp .lt 7, 3) := by decide +kernel
theorem dX5_firstReady_141 : decode cX5_firstReady 141 = .ok (.iload 5, 2) := by decide +kernel
theorem dX5_firstReady_143 : decode cX5_firstReady 143 = .ok (.istore 4, 2) := by decide +kernel
theorem dX5_firstReady_145 : decode cX5_firstReady 145 = .ok (.iinc 5 1, 3) := by decide +kernel
theorem dX5_firstReady_148 : decode cX5_firstReady 148 = .ok (.goto (-129), 3) := by decide +kernel
theorem dX5_firstReady_151 : decode cX5_firstReady 151 = .ok (.iload 4, 2) := by decide +kernel
theorem dX5_firstReady_153 : decode cX5_firstReady 153 = .ok (.ireturn, 1) := by decide +kernel
theorem dX5_putOneOn_0 : decode cX5_putOneOn 0 = .ok (.aload_n 0, 1) := by decide +kernel
theorem dX5_putOneOn_1 : decode cX5_putOneOn 1 = .ok (.getfield 24, 3) := by decide +kernel
theorem dX5_putOneOn_4 : decode cX5_putOneOn 4 = .ok (.iload_n 1, 1) := by decide +kernel
theorem dX5_putOneOn_5 : decode cX5_putOneOn 5 = .ok (.iload 4, 2) := by decide +kernel
theorem dX5_putOneOn_7 : decode cX5_putOneOn 7 = .ok (.iastore, 1) := by decide +kernel
theorem dX5_putOneOn_8 : decode cX5_putOneOn 8 = .ok (.aload_n 0, 1) := by decide +kernel
theorem dX5_putOneOn_9 : decode cX5_putOneOn 9 = .ok (.getfield 27, 3) := by decide +kernel
theorem dX5_putOneOn_12 : decode cX5_putOneOn 12 = .ok (.iload_n 1, 1) := by decide +kernel
theorem dX5_putOneOn_13 : decode cX5_putOneOn 13 = .ok (.iload_n 2, 1) := by decide +kernel
theorem dX5_putOneOn_14 : decode cX5_putOneOn 14 = .ok (.iastore, 1) := by decide +kernel
theorem dX5_putOneOn_15 : decode cX5_putOneOn 15 = .ok (.aload_n 0, 1) := by decide +kernel
theorem dX5_putOneOn_16 : decode cX5_putOneOn 16 = .ok (.getfield 30, 3) := by decide +kernel
theorem dX5_putOneOn_19 : decode cX5_putOneOn 19 = .ok (.iload_n 1, 1) := by decide +kernel
theorem dX5_putOneOn_20 : decode cX5_putOneOn 20 = .ok (.aload_n 0, 1) := by decide +kernel
theorem dX5_putOneOn_21 : decode cX5_putOneOn 21 = .ok (.getfield 33, 3) := by decide +kernel
theorem dX5_putOneOn_24 : decode cX5_putOneOn 24 = .ok (.iload_n 1, 1) := by decide +kernel
theorem dX5_putOneOn_25 : decode cX5_putOneOn 25 = .ok (.iaload, 1) := by decide +kernel
theorem dX5_putOneOn_26 : decode cX5_putOneOn 26 = .ok (.aload_n 0, 1) := by decide +kernel
theorem dX5_putOneOn_27 : decode cX5_putOneOn 27 = .ok (.getfield 51, 3) := by decide +kernel
theorem dX5_putOneOn_30 : decode cX5_putOneOn 30 = .ok (.getfield 171, 3) := by decide +kernel
theorem dX5_putOneOn_33 : decode cX5_putOneOn 33 = .ok (.iload_n 3, 1) := by decide +kernel
theorem dX5_putOneOn_34 : decode cX5_putOneOn 34 = .ok (.iaload, 1) := by decide +kernel
theorem dX5_putOneOn_35 : decode cX5_putOneOn 35 = .ok (.invokestatic 174, 3) := by decide +kernel
theorem dX5_putOneOn_38 : decode cX5_putOneOn 38 = .ok (.iastore, 1) := by decide +kernel
theorem dX5_putOneOn_39 : decode cX5_putOneOn 39 = .ok (.aload_n 0, 1) := by decide +kernel
theorem dX5_putOneOn_40 : decode cX5_putOneOn 40 = .ok (.getfield 45, 3) := by decide +kernel
theorem dX5_putOneOn_43 : decode cX5_putOneOn 43 = .ok (.aload_n 0, 1) := by decide +kernel
theorem dX5_putOneOn_44 : decode cX5_putOneOn 44 = .ok (.getfield 51, 3) := by decide +kernel
theorem dX5_putOneOn_47 : decode cX5_putOneOn 47 = .ok (.getfield 134, 3) := by decide +kernel
theorem dX5_putOneOn_50 : decode cX5_putOneOn 50 = .ok (.iload_n 1, 1) := by decide +kernel
theorem dX5_putOneOn_51 : decode cX5_putOneOn 51 = .ok (.iaload, 1) := by decide +kernel
theorem dX5_putOneOn_52 : decode cX5_putOneOn 52 = .ok (.iconst (-1), 1) := by decide +kernel
theorem dX5_putOneOn_53 : decode cX5_putOneOn 53 = .ok (.invokestatic 137, 3) := by decide +kernel
theorem dX5_putOneOn_56 : decode cX5_putOneOn 56 = .ok (.aload_n 0, 1) := by decide +kernel
theorem dX5_putOneOn_57 : decode cX5_putOneOn 57 = .ok (.getfield 48, 3) := by decide +kernel
theorem dX5_putOneOn_60 : decode cX5_putOneOn 60 = .ok (.aload_n 0, 1) := by decide +kernel
theorem dX5_putOneOn_61 : decode cX5_putOneOn 61 = .ok (.getfield 51, 3) := by decide +kernel
theorem dX5_putOneOn_64 : decode cX5_putOneOn 64 = .ok (.getfield 134, 3) := by decide +kernel
theorem dX5_putOneOn_67 : decode cX5_putOneOn 67 = .ok (.iload_n 1, 1) := by decide +kernel
theorem dX5_putOneOn_68 : decode cX5_putOneOn 68 = .ok (.iaload, 1) := by decide +kernel
theorem dX5_putOneOn_69 : decode cX5_putOneOn 69 = .ok (.iconst (-1), 1) := by decide +kernel
theorem dX5_putOneOn_70 : decode cX5_putOneOn 70 = .ok (.invokestatic 137, 3) := by decide +kernel
theorem dX5_putOneOn_73 : decode cX5_putOneOn 73 = .ok (.aload_n 0, 1) := by decide +kernel
theorem dX5_putOneOn_74 : decode cX5_putOneOn 74 = .ok (.dup, 1) := by decide +kernel
theorem dX5_putOneOn_75 : decode cX5_putOneOn 75 = .ok (.getfield 112, 3) := by decide +kernel
theorem dX5_putOneOn_78 : decode cX5_putOneOn 78 = .ok (.iconst 1, 1) := by decide +kernel
theorem dX5_putOneOn_79 : decode cX5_putOneOn 79 = .ok (.isub, 1) := by decide +kernel
theorem dX5_putOneOn_80 : decode cX5_putOneOn 80 = .ok (.putfield 112, 3) := by decide +kernel
theorem dX5_putOneOn_83 : decode cX5_putOneOn 83 = .ok (.aload_n 0, 1) := by decide +kernel
theorem dX5_putOneOn_84 : decode cX5_putOneOn 84 = .ok (.getfield 18, 3) := by decide +kernel
theorem dX5_putOneOn_87 : decode cX5_putOneOn 87 = .ok (.iload_n 2, 1) := by decide +kernel
theorem dX5_putOneOn_88 : decode cX5_putOneOn 88 = .ok (.dup2, 1) := by decide +kernel
theorem dX5_putOneOn_89 : decode cX5_putOneOn 89 = .ok (.iaload, 1) := by decide +kernel
theorem dX5_putOneOn_90 : decode cX5_putOneOn 90 = .ok (.iconst 1, 1) := by decide +kernel
theorem dX5_putOneOn_91 : decode cX5_putOneOn 91 = .ok (.iadd, 1) := by decide +kernel
theorem dX5_putOneOn_92 : decode cX5_putOneOn 92 = .ok (.iastore, 1) := by decide +kernel
theorem dX5_putOneOn_93 : decode cX5_putOneOn 93 = .ok (.aload_n 0, 1) := by decide +kernel
theorem dX5_putOneOn_94 : decode cX5_putOneOn 94 = .ok (.getfield 18, 3) := by decide +kernel
theorem dX5_putOneOn_97 : decode cX5_putOneOn 97 = .ok (.iload_n 2, 1) := by decide +kernel
theorem dX5_putOneOn_98 : decode cX5_putOneOn 98 = .ok (.iaload, 1) := by decide +kernel
theorem dX5_putOneOn_99 : decode cX5_putOneOn 99 = .ok (.aload_n 0, 1) := by decide +kernel
theorem dX5_putOneOn_100 : decode cX5_putOneOn 100 = .ok (.getfield 51, 3) := by decide +kernel
theorem dX5_putOneOn_103 : decode cX5_putOneOn 103 = .ok (.getfield 182, 3) := by decide +kernel
theorem dX5_putOneOn_106 : decode cX5_putOneOn 106 = .ok (.iload_n 2, 1) := by decide +kernel
theorem dX5_putOneOn_107 : decode cX5_putOneOn 107 = .ok (.iaload, 1) := by decide +kernel
theorem dX5_putOneOn_108 : decode cX5_putOneOn 108 = .ok (.if_icmp .lt 11, 3) := by decide +kernel
theorem dX5_putOneOn_111 : decode cX5_putOneOn 111 = .ok (.aload_n 0, 1) := by decide +kernel
theorem dX5_putOneOn_112 : decode cX5_putOneOn 112 = .ok (.iload_n 2, 1) := by decide +kernel
theorem dX5_putOneOn_113 : decode cX5_putOneOn 113 = .ok (.iload_n 3, 1) := by decide +kernel
theorem dX5_putOneOn_114 : decode cX5_putOneOn 114 = .ok (.iload 4, 2) := by decide +kernel
theorem dX5_putOneOn_116 : decode cX5_putOneOn 116 = .ok (.invokevirtual 185, 3) := by decide +kernel
theorem dX5_putOneOn_119 : decode cX5_putOneOn 119 = .ok (.return_, 1) := by decide +kernel
theorem dX5_takeOff_0 : decode cX5_takeOff 0 = .ok (.iconst 0, 1) := by decide +kernel
theorem dX5_takeOff_1 : decode cX5_takeOff 1 = .ok (.istore_n 2, 1) := by decide +kernel
theorem dX5_takeOff_2 : decode cX5_takeOff 2 = .ok (.iload_n 2, 1) := by decide +kernel
theorem dX5_takeOff_3 : decode cX5_takeOff 3 = .ok (.aload_n 0, 1) := by decide +kernel
theorem dX5_takeOff_4 : decode cX5_takeOff 4 = .ok (.getfield 51, 3) := by decide +kernel
theorem dX5_takeOff_7 : decode cX5_takeOff 7 = .ok (.getfield 115, 3) := by decide +kernel
theorem dX5_takeOff_10 : decode cX5_takeOff 10 = .ok (.if_icmp .ge 89, 3) := by decide +kernel
theorem dX5_takeOff_13 : decode cX5_takeOff 13 = .ok (.aload_n 0, 1) := by decide +kernel
theorem dX5_takeOff_14 : decode cX5_takeOff 14 = .ok (.getfield 36, 3) := by decide +kernel
theorem dX5_takeOff_17 : decode cX5_takeOff 17 = .ok (.iload_n 2, 1) := by decide +kernel
theorem dX5_takeOff_18 : decode cX5_takeOff 18 = .ok (.iaload, 1) := by decide +kernel
theorem dX5_takeOff_19 : decode cX5_takeOff 19 = .ok (.istore_n 3, 1) := by decide +kernel
theorem dX5_takeOff_20 : decode cX5_takeOff 20 = .ok (.aload_n 0, 1) := by decide +kernel
theorem dX5_takeOff_21 : decode cX5_takeOff 21 = .ok (.getfield 51, 3) := by decide +kernel
theorem dX5_takeOff_24 : decode cX5_takeOff 24 = .ok (.getfield 150, 3) := by decide +kernel
theorem dX5_takeOff_27 : decode cX5_takeOff 27 = .ok (.iload_n 2, 1) := by decide +kernel
theorem dX5_takeOff_28 : decode cX5_takeOff 28 = .ok (.iaload, 1) := by decide +kernel
theorem dX5_takeOff_29 : decode cX5_takeOff 29 = .ok (.ifCond .ne 64, 3) := by decide +kernel
theorem dX5_takeOff_32 : decode cX5_takeOff 32 = .ok (.aload_n 0, 1) := by decide +kernel
theorem dX5_takeOff_33 : decode cX5_takeOff 33 = .ok (.getfield 51, 3) := by decide +kernel
theorem dX5_takeOff_36 : decode cX5_takeOff 36 = .ok (.iload_n 3, 1) := by decide +kernel
theorem dX5_takeOff_37 : decode cX5_takeOff 37 = .ok (.invokevirtual 141, 3) := by decide +kernel
theorem dX5_takeOff_40 : decode cX5_takeOff 40 = .ok (.ifCond .eq 53, 3) := by decide +kernel
theorem dX5_takeOff_43 : decode cX5_takeOff 43 = .ok (.aload_n 0, 1) := by decide +kernel
theorem dX5_takeOff_44 : decode cX5_takeOff 44 = .ok (.getfield 112, 3) := by decide +kernel
theorem dX5_takeOff_47 : decode cX5_takeOff 47 = .ok (.aload_n 0, 1) := by decide +kernel
theorem dX5_takeOff_48 : decode cX5_takeOff 48 = .ok (.getfield 65, 3) := by decide +kernel
theorem dX5_takeOff_51 : decode cX5_takeOff 51 = .ok (.if_icmp .ge 42, 3) := by decide +kernel
theorem dX5_takeOff_54 : decode cX5_takeOff 54 = .ok (.aload_n 0, 1) := by decide +kernel
theorem dX5_takeOff_55 : decode cX5_takeOff 55 = .ok (.getfield 51, 3) := by decide +kernel
theorem dX5_takeOff_58 : decode cX5_takeOff 58 = .ok (.getfield 189, 3) := by decide +kernel
theorem dX5_takeOff_61 : decode cX5_takeOff 61 = .ok (.iload_n 3, 1) := by decide +kernel
theorem dX5_takeOff_62 : decode cX5_takeOff 62 = .ok (.iaload, 1) := by decide +kernel
theorem dX5_takeOff_63 : decode cX5_takeOff 63 = .ok (.aload_n 0, 1) := by decide +kernel
theorem dX5_takeOff_64 : decode cX5_takeOff 64 = .ok (.getfield 18, 3) := by decide +kernel
theorem dX5_takeOff_67 : decode cX5_takeOff 67 = .ok (.iload_n 3, 1) := by decide +kernel
theorem dX5_takeOff_68 : decode cX5_takeOff 68 = .ok (.iaload, 1) := by decide +kernel
theorem dX5_takeOff_69 : decode cX5_takeOff 69 = .ok (.iadd, 1) := by decide +kernel
theorem dX5_takeOff_70 : decode cX5_takeOff 70 = .ok (.istore 4, 2) := by decide +kernel
theorem dX5_takeOff_72 : decode cX5_takeOff 72 = .ok (.aload_n 0, 1) := by decide +kernel
theorem dX5_takeOff_73 : decode cX5_takeOff 73 = .ok (.getfield 51, 3) := by decide +kernel
theorem dX5_takeOff_76 : decode cX5_takeOff 76 = .ok (.iload 4, 2) := by decide +kernel
theorem dX5_takeOff_78 : decode cX5_takeOff 78 = .ok (.invokevirtual 160, 3) := by decide +kernel
theorem dX5_takeOff_81 : decode cX5_takeOff 81 = .ok (.ifCond .eq 12, 3) := by decide +kernel
theorem dX5_takeOff_84 : decode cX5_takeOff 84 = .ok (.aload_n 0, 1) := by decide +kernel
theorem dX5_takeOff_85 : decode cX5_takeOff 85 = .ok (.iload 4, 2) := by decide +kernel
theorem dX5_takeOff_87 : decode cX5_takeOff 87 = .ok (.iload_n 3, 1) := by decide +kernel
theorem dX5_takeOff_88 : decode cX5_takeOff 88 = .ok (.iload_n 2, 1) := by decide +kernel
theorem dX5_takeOff_89 : decode cX5_takeOff 89 = .ok (.iload_n 1, 1) := by decide +kernel
theorem dX5_takeOff_90 : decode cX5_takeOff 90 = .ok (.invokevirtual 192, 3) := by decide +kernel
theorem dX5_takeOff_93 : decode cX5_takeOff 93 = .ok (.iinc 2 1, 3) := by decide +kernel
theorem dX5_takeOff_96 : decode cX5_takeOff 96 = .ok (.goto (-94), 3) := by decide +kernel
theorem dX5_takeOff_99 : decode cX5_takeOff 99 = .ok (.return_, 1) := by decide +kernel
theorem dX5_takeOneOff_0 : decode cX5_takeOneOff 0 = .ok (.aload_n 0, 1) := by decide +kernel
theorem dX5_takeOneOff_1 : decode cX5_takeOneOff 1 = .ok (.getfield 21, 3) := by decide +kernel
theorem dX5_takeOneOff_4 : decode cX5_takeOneOff 4 = .ok (.iload_n 1, 1) := by decide +kernel
theorem dX5_takeOneOff_5 : decode cX5_takeOneOff 5 = .ok (.iload 4, 2) := by decide +kernel
theorem dX5_takeOneOff_7 : decode cX5_takeOneOff 7 = .ok (.iastore, 1) := by decide +kernel
theorem dX5_takeOneOff_8 : decode cX5_takeOneOff 8 = .ok (.aload_n 0, 1) := by decide +kernel
theorem dX5_takeOneOff_9 : decode cX5_takeOneOff 9 = .ok (.getfield 33, 3) := by decide +kernel
theorem dX5_takeOneOff_12 : decode cX5_takeOneOff 12 = .ok (.iload_n 1, 1) := by decide +kernel
theorem dX5_takeOneOff_13 : decode cX5_takeOneOff 13 = .ok (.aload_n 0, 1) := by decide +kernel
theorem dX5_takeOneOff_14 : decode cX5_takeOneOff 14 = .ok (.getfield 51, 3) := by decide +kernel
theorem dX5_takeOneOff_17 : decode cX5_takeOneOff 17 = .ok (.getfield 171, 3) := by decide +kernel
theorem dX5_takeOneOff_20 : decode cX5_takeOneOff 20 = .ok (.iload_n 3, 1) := by decide +kernel
theorem dX5_takeOneOff_21 : decode cX5_takeOneOff 21 = .ok (.iaload, 1) := by decide +kernel
theorem dX5_takeOneOff_22 : decode cX5_takeOneOff 22 = .ok (.iastore, 1) := by decide +kernel
theorem dX5_takeOneOff_23 : decode cX5_takeOneOff 23 = .ok (.aload_n 0, 1) := by decide +kernel
theorem dX5_takeOneOff_24 : decode cX5_takeOneOff 24 = .ok (.getfield 45, 3) := by decide +kernel
theorem dX5_takeOneOff_27 : decode cX5_takeOneOff 27 = .ok (.aload_n 0, 1) := by decide +kernel
theorem dX5_takeOneOff_28 : decode cX5_takeOneOff 28 = .ok (.getfield 51, 3) := by decide +kernel
theorem dX5_takeOneOff_31 : decode cX5_takeOneOff 31 = .ok (.getfield 134, 3) := by decide +kernel
theorem dX5_takeOneOff_34 : decode cX5_takeOneOff 34 = .ok (.iload_n 1, 1) := by decide +kernel
theorem dX5_takeOneOff_35 : decode cX5_takeOneOff 35 = .ok (.iaload, 1) := by decide +kernel
theorem dX5_takeOneOff_36 : decode cX5_takeOneOff 36 = .ok (.iconst 1, 1) := by decide +kernel
theorem dX5_takeOneOff_37 : decode cX5_takeOneOff 37 = .ok (.invokestatic 137, 3) := by decide +kernel
theorem dX5_takeOneOff_40 : decode cX5_takeOneOff 40 = .ok (.aload_n 0, 1) := by decide +kernel
theorem dX5_takeOneOff_41 : decode cX5_takeOneOff 41 = .ok (.dup, 1) := by decide +kernel
theorem dX5_takeOneOff_42 : decode cX5_takeOneOff 42 = .ok (.getfield 112, 3) := by decide +kernel
theorem dX5_takeOneOff_45 : decode cX5_takeOneOff 45 = .ok (.iconst 1, 1) := by decide +kernel
theorem dX5_takeOneOff_46 : decode cX5_takeOneOff 46 = .ok (.iadd, 1) := by decide +kernel
theorem dX5_takeOneOff_47 : decode cX5_takeOneOff 47 = .ok (.putfield 112, 3) := by decide +kernel
theorem dX5_takeOneOff_50 : decode cX5_takeOneOff 50 = .ok (.aload_n 0, 1) := by decide +kernel
theorem dX5_takeOneOff_51 : decode cX5_takeOneOff 51 = .ok (.getfield 18, 3) := by decide +kernel
theorem dX5_takeOneOff_54 : decode cX5_takeOneOff 54 = .ok (.iload_n 2, 1) := by decide +kernel
theorem dX5_takeOneOff_55 : decode cX5_takeOneOff 55 = .ok (.dup2, 1) := by decide +kernel
theorem dX5_takeOneOff_56 : decode cX5_takeOneOff 56 = .ok (.iaload, 1) := by decide +kernel
theorem dX5_takeOneOff_57 : decode cX5_takeOneOff 57 = .ok (.iconst 1, 1) := by decide +kernel
theorem dX5_takeOneOff_58 : decode cX5_takeOneOff 58 = .ok (.iadd, 1) := by decide +kernel
theorem dX5_takeOneOff_59 : decode cX5_takeOneOff 59 = .ok (.iastore, 1) := by decide +kernel
theorem dX5_takeOneOff_60 : decode cX5_takeOneOff 60 = .ok (.aload_n 0, 1) := by decide +kernel
theorem dX5_takeOneOff_61 : decode cX5_takeOneOff 61 = .ok (.getfield 18, 3) := by decide +kernel
theorem dX5_takeOneOff_64 : decode cX5_takeOneOff 64 = .ok (.iload_n 2, 1) := by decide +kernel
theorem dX5_takeOneOff_65 : decode cX5_takeOneOff 65 = .ok (.iaload, 1) := by decide +kernel
theorem dX5_takeOneOff_66 : decode cX5_takeOneOff 66 = .ok (.aload_n 0, 1) := by decide +kernel
theorem dX5_takeOneOff_67 : decode cX5_takeOneOff 67 = .ok (.getfield 51, 3) := by decide +kernel
theorem dX5_takeOneOff_70 : decode cX5_takeOneOff 70 = .ok (.getfield 182, 3) := by decide +kernel
theorem dX5_takeOneOff_73 : decode cX5_takeOneOff 73 = .ok (.iload_n 2, 1) := by decide +kernel
theorem dX5_takeOneOff_74 : decode cX5_takeOneOff 74 = .ok (.iaload, 1) := by decide +kernel
theorem dX5_takeOneOff_75 : decode cX5_takeOneOff 75 = .ok (.if_icmp .lt 11, 3) := by decide +kernel
theorem dX5_takeOneOff_78 : decode cX5_takeOneOff 78 = .ok (.aload_n 0, 1) := by decide +kernel
theorem dX5_takeOneOff_79 : decode cX5_takeOneOff 79 = .ok (.iload_n 2, 1) := by decide +kernel
theorem dX5_takeOneOff_80 : decode cX5_takeOneOff 80 = .ok (.iload_n 3, 1) := by decide +kernel
theorem dX5_takeOneOff_81 : decode cX5_takeOneOff 81 = .ok (.iload 4, 2) := by decide +kernel
theorem dX5_takeOneOff_83 : decode cX5_takeOneOff 83 = .ok (.invokevirtual 185, 3) := by decide +kernel
theorem dX5_takeOneOff_86 : decode cX5_takeOneOff 86 = .ok (.return_, 1) := by decide +kernel
theorem dX5_letGo_0 : decode cX5_letGo 0 = .ok (.iconst 0, 1) := by decide +kernel
theorem dX5_letGo_1 : decode cX5_letGo 1 = .ok (.istore_n 2, 1) := by decide +kernel
theorem dX5_letGo_2 : decode cX5_letGo 2 = .ok (.iload_n 2, 1) := by decide +kernel
theorem dX5_letGo_3 : decode cX5_letGo 3 = .ok (.aload_n 0, 1) := by decide +kernel
theorem dX5_letGo_4 : decode cX5_letGo 4 = .ok (.getfield 51, 3) := by decide +kernel
theorem dX5_letGo_7 : decode cX5_letGo 7 = .ok (.getfield 115, 3) := by decide +kernel
theorem dX5_letGo_10 : decode cX5_letGo 10 = .ok (.if_icmp .ge 66, 3) := by decide +kernel
theorem dX5_letGo_13 : decode cX5_letGo 13 = .ok (.aload_n 0, 1) := by decide +kernel
theorem dX5_letGo_14 : decode cX5_letGo 14 = .ok (.getfield 36, 3) := by decide +kernel
theorem dX5_letGo_17 : decode cX5_letGo 17 = .ok (.iload_n 2, 1) := by decide +kernel
theorem dX5_letGo_18 : decode cX5_letGo 18 = .ok (.iaload, 1) := by decide +kernel
theorem dX5_letGo_19 : decode cX5_letGo 19 = .ok (.istore_n 3, 1) := by decide +kernel
theorem dX5_letGo_20 : decode cX5_letGo 20 = .ok (.aload_n 0, 1) := by decide +kernel
theorem dX5_letGo_21 : decode cX5_letGo 21 = .ok (.getfield 51, 3) := by decide +kernel
theorem dX5_letGo_24 : decode cX5_letGo 24 = .ok (.getfield 150, 3) := by decide +kernel
theorem dX5_letGo_27 : decode cX5_letGo 27 = .ok (.iload_n 2, 1) := by decide +kernel
theorem dX5_letGo_28 : decode cX5_letGo 28 = .ok (.iaload, 1) := by decide +kernel
theorem dX5_letGo_29 : decode cX5_letGo 29 = .ok (.iconst 1, 1) := by decide +kernel
theorem dX5_letGo_30 : decode cX5_letGo 30 = .ok (.if_icmp .ne 40, 3) := by decide +kernel
theorem dX5_letGo_33 : decode cX5_letGo 33 = .ok (.aload_n 0, 1) := by decide +kernel
theorem dX5_letGo_34 : decode cX5_letGo 34 = .ok (.getfield 51, 3) := by decide +kernel
theorem dX5_letGo_37 : decode cX5_letGo 37 = .ok (.iload_n 3, 1) := by decide +kernel
theorem dX5_letGo_38 : decode cX5_letGo 38 = .ok (.invokevirtual 141, 3) := by decide +kernel
theorem dX5_letGo_41 : decode cX5_letGo 41 = .ok (.ifCond .eq 29, 3) := by decide +kernel
theorem dX5_letGo_44 : decode cX5_letGo 44 = .ok (.aload_n 0, 1) := by decide +kernel
theorem dX5_letGo_45 : decode cX5_letGo 45 = .ok (.getfield 48, 3) := by decide +kernel
theorem dX5_letGo_48 : decode cX5_letGo 48 = .ok (.aload_n 0, 1) := by decide +kernel
theorem dX5_letGo_49 : decode cX5_letGo 49 = .ok (.getfield 51, 3) := by decide +kernel
theorem dX5_letGo_52 : decode cX5_letGo 52 = .ok (.getfield 153, 3) := by decide +kernel
theorem dX5_letGo_55 : decode cX5_letGo 55 = .ok (.iload_n 3, 1) := by decide +kernel
theorem dX5_letGo_56 : decode cX5_letGo 56 = .ok (.iaload, 1) := by decide +kernel
theorem dX5_letGo_57 : decode cX5_letGo 57 = .ok (.invokestatic 167, 3) := by decide +kernel
theorem dX5_letGo_60 : decode cX5_letGo 60 = .ok (.ifCond .ne 10, 3) := by decide +kernel
theorem dX5_letGo_63 : decode cX5_letGo 63 = .ok (.aload_n 0, 1) := by decide +kernel
theorem dX5_letGo_64 : decode cX5_letGo 64 = .ok (.iload_n 3, 1) := by decide +kernel
theorem dX5_letGo_65 : decode cX5_letGo 65 = .ok (.iload_n 2, 1) := by decide +kernel
theorem dX5_letGo_66 : decode cX5_letGo 66 = .ok (.iload_n 1, 1) := by decide +kernel
theorem dX5_letGo_67 : decode cX5_letGo 67 = .ok (.invokevirtual 185, 3) := by decide +kernel
theorem dX5_letGo_70 : decode cX5_letGo 70 = .ok (.iinc 2 1, 3) := by decide +kernel
theorem dX5_letGo_73 : decode cX5_letGo 73 = .ok (.goto (-71), 3) := by decide +kernel
theorem dX5_letGo_76 : decode cX5_letGo 76 = .ok (.return_, 1) := by decide +kernel
theorem dX5_leave_0 : decode cX5_leave 0 = .ok (.aload_n 0, 1) := by decide +kernel
theorem dX5_leave_1 : decode cX5_leave 1 = .ok (.getfield 15, 3) := by decide +kernel
theorem dX5_leave_4 : decode cX5_leave 4 = .ok (.iload_n 1, 1) := by decide +kernel
theorem dX5_leave_5 : decode cX5_leave 5 = .ok (.iload_n 3, 1) := by decide +kernel
theorem dX5_leave_6 : decode cX5_leave 6 = .ok (.iastore, 1) := by decide +kernel
theorem dX5_leave_7 : decode cX5_leave 7 = .ok (.aload_n 0, 1) := by decide +kernel
theorem dX5_leave_8 : decode cX5_leave 8 = .ok (.getfield 36, 3) := by decide +kernel
theorem dX5_leave_11 : decode cX5_leave 11 = .ok (.iload_n 2, 1) := by decide +kernel
theorem dX5_leave_12 : decode cX5_leave 12 = .ok (.iconst (-1), 1) := by decide +kernel
theorem dX5_leave_13 : decode cX5_leave 13 = .ok (.iastore, 1) := by decide +kernel
theorem dX5_leave_14 : decode cX5_leave 14 = .ok (.aload_n 0, 1) := by decide +kernel
theorem dX5_leave_15 : decode cX5_leave 15 = .ok (.getfield 42, 3) := by decide +kernel
theorem dX5_leave_18 : decode cX5_leave 18 = .ok (.iload_n 2, 1) := by decide +kernel
theorem dX5_leave_19 : decode cX5_leave 19 = .ok (.iload_n 3, 1) := by decide +kernel
theorem dX5_leave_20 : decode cX5_leave 20 = .ok (.aload_n 0, 1) := by decide +kernel
theorem dX5_leave_21 : decode cX5_leave 21 = .ok (.getfield 51, 3) := by decide +kernel
theorem dX5_leave_24 : decode cX5_leave 24 = .ok (.getfield 195, 3) := by decide +kernel
theorem dX5_leave_27 : decode cX5_leave 27 = .ok (.iadd, 1) := by decide +kernel
theorem dX5_leave_28 : decode cX5_leave 28 = .ok (.iconst 1, 1) := by decide +kernel
theorem dX5_leave_29 : decode cX5_leave 29 = .ok (.iadd, 1) := by decide +kernel
theorem dX5_leave_30 : decode cX5_leave 30 = .ok (.iastore, 1) := by decide +kernel
theorem dX5_leave_31 : decode cX5_leave 31 = .ok (.aload_n 0, 1) := by decide +kernel
theorem dX5_leave_32 : decode cX5_leave 32 = .ok (.dup, 1) := by decide +kernel
theorem dX5_leave_33 : decode cX5_leave 33 = .ok (.getfield 75, 3) := by decide +kernel
theorem dX5_leave_36 : decode cX5_leave 36 = .ok (.iconst 1, 1) := by decide +kernel
theorem dX5_leave_37 : decode cX5_leave 37 = .ok (.isub, 1) := by decide +kernel
theorem dX5_leave_38 : decode cX5_leave 38 = .ok (.putfield 75, 3) := by decide +kernel
theorem dX5_leave_41 : decode cX5_leave 41 = .ok (.return_, 1) := by decide +kernel
theorem dX5_lateBy_0 : decode cX5_lateBy 0 = .ok (.aload_n 0, 1) := by decide +kernel
theorem dX5_lateBy_1 : decode cX5_lateBy 1 = .ok (.getfield 51, 3) := by decide +kernel
theorem dX5_lateBy_4 : decode cX5_lateBy 4 = .ok (.getfield 198, 3) := by decide +kernel
theorem dX5_lateBy_7 : decode cX5_lateBy 7 = .ok (.iload_n 1, 1) := by decide +kernel
theorem dX5_lateBy_8 : decode cX5_lateBy 8 = .ok (.iaload, 1) := by decide +kernel
theorem dX5_lateBy_9 : decode cX5_lateBy 9 = .ok (.ifCond .ne 5, 3) := by decide +kernel
theorem dX5_lateBy_12 : decode cX5_lateBy 12 = .ok (.iconst 0, 1) := by decide +kernel
theorem dX5_lateBy_13 : decode cX5_lateBy 13 = .ok (.ireturn, 1) := by decide +kernel
theorem dX5_lateBy_14 : decode cX5_lateBy 14 = .ok (.aload_n 0, 1) := by decide +kernel
theorem dX5_lateBy_15 : decode cX5_lateBy 15 = .ok (.getfield 15, 3) := by decide +kernel
theorem dX5_lateBy_18 : decode cX5_lateBy 18 = .ok (.iload_n 1, 1) := by decide +kernel
theorem dX5_lateBy_19 : decode cX5_lateBy 19 = .ok (.iaload, 1) := by decide +kernel
theorem dX5_lateBy_20 : decode cX5_lateBy 20 = .ok (.iconst (-1), 1) := by decide +kernel
theorem dX5_lateBy_21 : decode cX5_lateBy 21 = .ok (.if_icmp .ne 9, 3) := by decide +kernel
theorem dX5_lateBy_24 : decode cX5_lateBy 24 = .ok (.sipush 200, 3) := by decide +kernel
theorem dX5_lateBy_27 : decode cX5_lateBy 27 = .ok (.goto 9, 3) := by decide +kernel
theorem dX5_lateBy_30 : decode cX5_lateBy 30 = .ok (.aload_n 0, 1) := by decide +kernel
theorem dX5_lateBy_31 : decode cX5_lateBy 31 = .ok (.getfield 15, 3) := by decide +kernel
theorem dX5_lateBy_34 : decode cX5_lateBy 34 = .ok (.iload_n 1, 1) := by decide +kernel
theorem dX5_lateBy_35 : decode cX5_lateBy 35 = .ok (.iaload, 1) := by decide +kernel
theorem dX5_lateBy_36 : decode cX5_lateBy 36 = .ok (.istore_n 2, 1) := by decide +kernel
theorem dX5_lateBy_37 : decode cX5_lateBy 37 = .ok (.iconst 0, 1) := by decide +kernel
theorem dX5_lateBy_38 : decode cX5_lateBy 38 = .ok (.iload_n 2, 1) := by decide +kernel
theorem dX5_lateBy_39 : decode cX5_lateBy 39 = .ok (.aload_n 0, 1) := by decide +kernel
theorem dX5_lateBy_40 : decode cX5_lateBy 40 = .ok (.getfield 51, 3) := by decide +kernel
theorem dX5_lateBy_43 : decode cX5_lateBy 43 = .ok (.getfield 201, 3) := by decide +kernel
theorem dX5_lateBy_46 : decode cX5_lateBy 46 = .ok (.iload_n 1, 1) := by decide +kernel
theorem dX5_lateBy_47 : decode cX5_lateBy 47 = .ok (.iaload, 1) := by decide +kernel
theorem dX5_lateBy_48 : decode cX5_lateBy 48 = .ok (.isub, 1) := by decide +kernel
theorem dX5_lateBy_49 : decode cX5_lateBy 49 = .ok (.invokestatic 177, 3) := by decide +kernel
theorem dX5_lateBy_52 : decode cX5_lateBy 52 = .ok (.ireturn, 1) := by decide +kernel
theorem dX5_lateness_0 : decode cX5_lateness 0 = .ok (.iconst 0, 1) := by decide +kernel
theorem dX5_lateness_1 : decode cX5_lateness 1 = .ok (.istore_n 1, 1) := by decide +kernel
theorem dX5_lateness_2 : decode cX5_lateness 2 = .ok (.iconst 0, 1) := by decide +kernel
theorem dX5_lateness_3 : decode cX5_lateness 3 = .ok (.istore_n 2, 1) := by decide +kernel
theorem dX5_lateness_4 : decode cX5_lateness 4 = .ok (.iload_n 2, 1) := by decide +kernel
theorem dX5_lateness_5 : decode cX5_lateness 5 = .ok (.aload_n 0, 1) := by decide +kernel
theorem dX5_lateness_6 : decode cX5_lateness 6 = .ok (.getfield 51, 3) := by decide +kernel
theorem dX5_lateness_9 : decode cX5_lateness 9 = .ok (.getfield 124, 3) := by decide +kernel
theorem dX5_lateness_12 : decode cX5_lateness 12 = .ok (.if_icmp .ge 27, 3) := by decide +kernel
theorem dX5_lateness_15 : decode cX5_lateness 15 = .ok (.iload_n 1, 1) := by decide +kernel
theorem dX5_lateness_16 : decode cX5_lateness 16 = .ok (.aload_n 0, 1) := by decide +kernel
theorem dX5_lateness_17 : decode cX5_lateness 17 = .ok (.iload_n 2, 1) := by decide +kernel
theorem dX5_lateness_18 : decode cX5_lateness 18 = .ok (.invokevirtual 204, 3) := by decide +kernel
theorem dX5_lateness_21 : decode cX5_lateness 21 = .ok (.aload_n 0, 1) := by decide +kernel
theorem dX5_lateness_22 : decode cX5_lateness 22 = .ok (.getfield 51, 3) := by decide +kernel
theorem dX5_lateness_25 : decode cX5_lateness 25 = .ok (.getfield 208, 3) := by decide +kernel
theorem dX5_lateness_28 : decode cX5_lateness 28 = .ok (.iload_n 2, 1) := by decide +kernel
theorem dX5_lateness_29 : decode cX5_lateness 29 = .ok (.iaload, 1) := by decide +kernel
theorem dX5_lateness_30 : decode cX5_lateness 30 = .ok (.imul, 1) := by decide +kernel
theorem dX5_lateness_31 : decode cX5_lateness 31 = .ok (.iadd, 1) := by decide +kernel
theorem dX5_lateness_32 : decode cX5_lateness 32 = .ok (.istore_n 1, 1) := by decide +kernel
theorem dX5_lateness_33 : decode cX5_lateness 33 = .ok (.iinc 2 1, 3) := by decide +kernel
theorem dX5_lateness_36 : decode cX5_lateness 36 = .ok (.goto (-32), 3) := by decide +kernel
theorem dX5_lateness_39 : decode cX5_lateness 39 = .ok (.iload_n 1, 1) := by decide +kernel
theorem dX5_lateness_40 : decode cX5_lateness 40 = .ok (.ireturn, 1) := by decide +kernel
theorem dX5_travelled_0 : decode cX5_travelled 0 = .ok (.iconst 0, 1) := by decide +kernel
theorem dX5_travelled_1 : decode cX5_travelled 1 = .ok (.istore_n 1, 1) := by decide +kernel
theorem dX5_travelled_2 : decode cX5_travelled 2 = .ok (.iconst 0, 1) := by decide +kernel
theorem dX5_travelled_3 : decode cX5_travelled 3 = .ok (.istore_n 2, 1) := by decide +kernel
theorem dX5_travelled_4 : decode cX5_travelled 4 = .ok (.iload_n 2, 1) := by decide +kernel
theorem dX5_travelled_5 : decode cX5_travelled 5 = .ok (.aload_n 0, 1) := by decide +kernel
theorem dX5_travelled_6 : decode cX5_travelled 6 = .ok (.getfield 51, 3) := by decide +kernel
theorem dX5_travelled_9 : decode cX5_travelled 9 = .ok (.getfield 101, 3) := by decide +kernel
theorem dX5_travelled_12 : decode cX5_travelled 12 = .ok (.if_icmp .ge 32, 3) := by decide +kernel
theorem dX5_travelled_15 : decode cX5_travelled 15 = .ok (.iload_n 1, 1) := by decide +kernel
theorem dX5_travelled_16 : decode cX5_travelled 16 = .ok (.aload_n 0, 1) := by decide +kernel
theorem dX5_travelled_17 : decode cX5_travelled 17 = .ok (.getfield 24, 3) := by decide +kernel
theorem dX5_travelled_20 : decode cX5_travelled 20 = .ok (.iload_n 2, 1) := by decide +kernel
theorem dX5_travelled_21 : decode cX5_travelled 21 = .ok (.iaload, 1) := by decide +kernel
theorem dX5_travelled_22 : decode cX5_travelled 22 = .ok (.iconst (-1), 1) := by decide +kernel
theorem dX5_travelled_23 : decode cX5_travelled 23 = .ok (.if_icmp .ne 7, 3) := by decide +kernel
theorem dX5_travelled_26 : decode cX5_travelled 26 = .ok (.iconst 0, 1) := by decide +kernel
theorem dX5_travelled_27 : decode cX5_travelled 27 = .ok (.goto 9, 3) := by decide +kernel
theorem dX5_travelled_30 : decode cX5_travelled 30 = .ok (.aload_n 0, 1) := by decide +kernel
theorem dX5_travelled_31 : decode cX5_travelled 31 = .ok (.getfield 30, 3) := by decide +kernel
theorem dX5_travelled_34 : decode cX5_travelled 34 = .ok (.iload_n 2, 1) := by decide +kernel
theorem dX5_travelled_35 : decode cX5_travelled 35 = .ok (.iaload, 1) := by decide +kernel
theorem dX5_travelled_36 : decode cX5_travelled 36 = .ok (.iadd, 1) := by decide +kernel
theorem dX5_travelled_37 : decode cX5_travelled 37 = .ok (.istore_n 1, 1) := by decide +kernel
theorem dX5_travelled_38 : decode cX5_travelled 38 = .ok (.iinc 2 1, 3) := by decide +kernel
theorem dX5_travelled_41 : decode cX5_travelled 41 = .ok (.goto (-37), 3) := by decide +kernel
theorem dX5_travelled_44 : decode cX5_travelled 44 = .ok (.iload_n 1, 1) := by decide +kernel
theorem dX5_travelled_45 : decode cX5_travelled 45 = .ok (.ireturn, 1) := by decide +kernel
theorem dX5_minutesStaged_0 : decode cX5_minutesStaged 0 = .ok (.iconst 0, 1) := by decide +kernel
theorem dX5_minutesStaged_1 : decode cX5_minutesStaged 1 = .ok (.istore_n 1, 1) := by decide +kernel
theorem dX5_minutesStaged_2 : decode cX5_minutesStaged 2 = .ok (.iconst 0, 1) := by decide +kernel
theorem dX5_minutesStaged_3 : decode cX5_minutesStaged 3 = .ok (.istore_n 2, 1) := by decide +kernel
theorem dX5_minutesStaged_4 : decode cX5_minutesStaged 4 = .ok (.iload_n 2, 1) := by decide +kernel
theorem dX5_minutesStaged_5 : decode cX5_minutesStaged 5 = .ok (.aload_n 0, 1) := by decide +kernel
theorem dX5_minutesStaged_6 : decode cX5_minutesStaged 6 = .ok (.getfield 51, 3) := by decide +kernel
theorem dX5_minutesStaged_9 : decode cX5_minutesStaged 9 = .ok (.getfield 101, 3) := by decide +kernel
theorem dX5_minutesStaged_12 : decode cX5_minutesStaged 12 = .ok (.if_icmp .ge 39, 3) := by decide +kernel
theorem dX5_minutesStaged_15 : decode cX5_minutesStaged 15 = .ok (.iload_n 1, 1) := by decide +kernel
theorem dX5_minutesStaged_16 : decode cX5_minutesStaged 16 = .ok (.aload_n 0, 1) := by decide +kernel
theorem dX5_minutesStaged_17 : decode cX5_minutesStaged 17 = .ok (.getfield 24, 3) := by decide +kernel
theorem dX5_minutesStaged_20 : decode cX5_minutesStaged 20 = .ok (.iload_n 2, 1) := by decide +kernel
theorem dX5_minutesStaged_21 : decode cX5_minutesStaged 21 = .ok (.iaload, 1) := by decide +kernel
theorem dX5_minutesStaged_22 : decode cX5_minutesStaged 22 = .ok (.iconst (-1), 1) := by decide +kernel
theorem dX5_minutesStaged_23 : decode cX5_minutesStaged 23 = .ok (.if_icmp .ne 7, 3) := by decide +kernel
theorem dX5_minutesStaged_26 : decode cX5_minutesStaged 26 = .ok (.iconst 0, 1) := by decide +kernel
theorem dX5_minutesStaged_27 : decode cX5_minutesStaged 27 = .ok (.goto 16, 3) := by decide +kernel
theorem dX5_minutesStaged_30 : decode cX5_minutesStaged 30 = .ok (.aload_n 0, 1) := by decide +kernel
theorem dX5_minutesStaged_31 : decode cX5_minutesStaged 31 = .ok (.getfield 24, 3) := by decide +kernel
theorem dX5_minutesStaged_34 : decode cX5_minutesStaged 34 = .ok (.iload_n 2, 1) := by decide +kernel
theorem dX5_minutesStaged_35 : decode cX5_minutesStaged 35 = .ok (.iaload, 1) := by decide +kernel
theorem dX5_minutesStaged_36 : decode cX5_minutesStaged 36 = .ok (.aload_n 0, 1) := by decide +kernel
theorem dX5_minutesStaged_37 : decode cX5_minutesStaged 37 = .ok (.getfield 21, 3) := by decide +kernel
theorem dX5_minutesStaged_40 : decode cX5_minutesStaged 40 = .ok (.iload_n 2, 1) := by decide +kernel
theorem dX5_minutesStaged_41 : decode cX5_minutesStaged 41 = .ok (.iaload, 1) := by decide +kernel
theorem dX5_minutesStaged_42 : decode cX5_minutesStaged 42 = .ok (.isub, 1) := by decide +kernel
theorem dX5_minutesStaged_43 : decode cX5_minutesStaged 43 = .ok (.iadd, 1) := by decide +kernel
theorem dX5_minutesStaged_44 : decode cX5_minutesStaged 44 = .ok (.istore_n 1, 1) := by decide +kernel
theorem dX5_minutesStaged_45 : decode cX5_minutesStaged 45 = .ok (.iinc 2 1, 3) := by decide +kernel
theorem dX5_minutesStaged_48 : decode cX5_minutesStaged 48 = .ok (.goto (-44), 3) := by decide +kernel
theorem dX5_minutesStaged_51 : decode cX5_minutesStaged 51 = .ok (.iload_n 1, 1) := by decide +kernel
theorem dX5_minutesStaged_52 : decode cX5_minutesStaged 52 = .ok (.ireturn, 1) := by decide +kernel
theorem dX5_putOnInAll_0 : decode cX5_putOnInAll 0 = .ok (.iconst 0, 1) := by decide +kernel
theorem dX5_putOnInAll_1 : decode cX5_putOnInAll 1 = .ok (.istore_n 1, 1) := by decide +kernel
theorem dX5_putOnInAll_2 : decode cX5_putOnInAll 2 = .ok (.iconst 0, 1) := by decide +kernel
theorem dX5_putOnInAll_3 : decode cX5_putOnInAll 3 = .ok (.istore_n 2, 1) := by decide +kernel
theorem dX5_putOnInAll_4 : decode cX5_putOnInAll 4 = .ok (.iload_n 2, 1) := by decide +kernel
theorem dX5_putOnInAll_5 : decode cX5_putOnInAll 5 = .ok (.aload_n 0, 1) := by decide +kernel
theorem dX5_putOnInAll_6 : decode cX5_putOnInAll 6 = .ok (.getfield 51, 3) := by decide +kernel
theorem dX5_putOnInAll_9 : decode cX5_putOnInAll 9 = .ok (.getfield 101, 3) := by decide +kernel
theorem dX5_putOnInAll_12 : decode cX5_putOnInAll 12 = .ok (.if_icmp .ge 27, 3) := by decide +kernel
theorem dX5_putOnInAll_15 : decode cX5_putOnInAll 15 = .ok (.iload_n 1, 1) := by decide +kernel
theorem dX5_putOnInAll_16 : decode cX5_putOnInAll 16 = .ok (.aload_n 0, 1) := by decide +kernel
theorem dX5_putOnInAll_17 : decode cX5_putOnInAll 17 = .ok (.getfield 24, 3) := by decide +kernel
theorem dX5_putOnInAll_20 : decode cX5_putOnInAll 20 = .ok (.iload_n 2, 1) := by decide +kernel
theorem dX5_putOnInAll_21 : decode cX5_putOnInAll 21 = .ok (.iaload, 1) := by decide +kernel
theorem dX5_putOnInAll_22 : decode cX5_putOnInAll 22 = .ok (.iconst (-1), 1) := by decide +kernel
theorem dX5_putOnInAll_23 : decode cX5_putOnInAll 23 = .ok (.if_icmp .ne 7, 3) := by decide +kernel
theorem dX5_putOnInAll_26 : decode cX5_putOnInAll 26 = .ok (.iconst 0, 1) := by decide +kernel
theorem dX5_putOnInAll_27 : decode cX5_putOnInAll 27 = .ok (.goto 4, 3) := by decide +kernel
theorem dX5_putOnInAll_30 : decode cX5_putOnInAll 30 = .ok (.iconst 1, 1) := by decide +kernel
theorem dX5_putOnInAll_31 : decode cX5_putOnInAll 31 = .ok (.iadd, 1) := by decide +kernel
theorem dX5_putOnInAll_32 : decode cX5_putOnInAll 32 = .ok (.istore_n 1, 1) := by decide +kernel
theorem dX5_putOnInAll_33 : decode cX5_putOnInAll 33 = .ok (.iinc 2 1, 3) := by decide +kernel
theorem dX5_putOnInAll_36 : decode cX5_putOnInAll 36 = .ok (.goto (-32), 3) := by decide +kernel
theorem dX5_putOnInAll_39 : decode cX5_putOnInAll 39 = .ok (.iload_n 1, 1) := by decide +kernel
theorem dX5_putOnInAll_40 : decode cX5_putOnInAll 40 = .ok (.ireturn, 1) := by decide +kernel
theorem dX5_stagedAtEnd_0 : decode cX5_stagedAtEnd 0 = .ok (.iconst 0, 1) := by decide +kernel
theorem dX5_stagedAtEnd_1 : decode cX5_stagedAtEnd 1 = .ok (.istore_n 3, 1) := by decide +kernel
theorem dX5_stagedAtEnd_2 : decode cX5_stagedAtEnd 2 = .ok (.iconst 0, 1) := by decide +kernel
theorem dX5_stagedAtEnd_3 : decode cX5_stagedAtEnd 3 = .ok (.istore 4, 2) := by decide +kernel
theorem dX5_stagedAtEnd_5 : decode cX5_stagedAtEnd 5 = .ok (.iload 4, 2) := by decide +kernel
theorem dX5_stagedAtEnd_7 : decode cX5_stagedAtEnd 7 = .ok (.aload_n 0, 1) := by decide +kernel
theorem dX5_stagedAtEnd_8 : decode cX5_stagedAtEnd 8 = .ok (.getfield 51, 3) := by decide +kernel
theorem dX5_stagedAtEnd_11 : decode cX5_stagedAtEnd 11 = .ok (.getfield 101, 3) := by decide +kernel
theorem dX5_stagedAtEnd_14 : decode cX5_stagedAtEnd 14 = .ok (.if_icmp .ge 111, 3) := by decide +kernel
theorem dX5_stagedAtEnd_17 : decode cX5_stagedAtEnd 17 = .ok (.iload_n 2, 1) := by decide +kernel
theorem dX5_stagedAtEnd_18 : decode cX5_stagedAtEnd 18 = .ok (.iconst (-1), 1) := by decide +kernel
theorem dX5_stagedAtEnd_19 : decode cX5_stagedAtEnd 19 = .ok (.if_icmp .eq 17, 3) := by decide +kernel
theorem dX5_stagedAtEnd_22 : decode cX5_stagedAtEnd 22 = .ok (.aload_n 0, 1) := by decide +kernel
theorem dX5_stagedAtEnd_23 : decode cX5_stagedAtEnd 23 = .ok (.getfield 51, 3) := by decide +kernel
theorem dX5_stagedAtEnd_26 : decode cX5_stagedAtEnd 26 = .ok (.getfield 134, 3) := by decide +kernel
theorem dX5_stagedAtEnd_29 : decode cX5_stagedAtEnd 29 = .ok (.iload 4, 2) := by decide +kernel
theorem dX5_stagedAtEnd_31 : decode cX5_stagedAtEnd 31 = .ok (.iaload, 1) := by decide +kernel
theorem dX5_stagedAtEnd_32 : decode cX5_stagedAtEnd 32 = .ok (.iload_n 2, 1) := by decide +kernel
theorem dX5_stagedAtEnd_33 : decode cX5_stagedAtEnd 33 = .ok (.if_icmp .ne 7, 3) := by decide +kernel
theorem dX5_stagedAtEnd_36 : decode cX5_stagedAtEnd 36 = .ok (.iconst 1, 1) := by decide +kernel
theorem dX5_stagedAtEnd_37 : decode cX5_stagedAtEnd 37 = .ok (.goto 4, 3) := by decide +kernel
theorem dX5_stagedAtEnd_40 : decode cX5_stagedAtEnd 40 = .ok (.iconst 0, 1) := by decide +kernel
theorem dX5_stagedAtEnd_41 : decode cX5_stagedAtEnd 41 = .ok (.istore 5, 2) := by decide +kernel
theorem dX5_stagedAtEnd_43 : decode cX5_stagedAtEnd 43 = .ok (.aload_n 0, 1) := by decide +kernel
theorem dX5_stagedAtEnd_44 : decode cX5_stagedAtEnd 44 = .ok (.getfield 21, 3) := by decide +kernel
theorem dX5_stagedAtEnd_47 : decode cX5_stagedAtEnd 47 = .ok (.iload 4, 2) := by decide +kernel
theorem dX5_stagedAtEnd_49 : decode cX5_stagedAtEnd 49 = .ok (.iaload, 1) := by decide +kernel
theorem dX5_stagedAtEnd_50 : decode cX5_stagedAtEnd 50 = .ok (.iconst (-1), 1) := by decide +kernel
theorem dX5_stagedAtEnd_51 : decode cX5_stagedAtEnd 51 = .ok (.if_icmp .eq 18, 3) := by decide +kernel
theorem dX5_stagedAtEnd_54 : decode cX5_stagedAtEnd 54 = .ok (.aload_n 0, 1) := by decide +kernel
theorem dX5_stagedAtEnd_55 : decode cX5_stagedAtEnd 55 = .ok (.getfield 21, 3) := by decide +kernel
theorem dX5_stagedAtEnd_58 : decode cX5_stagedAtEnd 58 = .ok (.iload 4, 2) := by decide +kernel
theorem dX5_stagedAtEnd_60 : decode cX5_stagedAtEnd 60 = .ok (.iaload, 1) := by decide +kernel
theorem dX5_stagedAtEnd_61 : decode cX5_stagedAtEnd 61 = .ok (.iload_n 1, 1) := by decide +kernel
theorem dX5_stagedAtEnd_62 : decode cX5_stagedAtEnd 62 = .ok (.if_icmp .gt 7, 3) := by decide +kernel
theorem dX5_stagedAtEnd_65 : decode cX5_stagedAtEnd 65 = .ok (.iconst 1, 1) := by decide +kernel
theorem dX5_stagedAtEnd_66 : decode cX5_stagedAtEnd 66 = .ok (.goto 4, 3) := by decide +kernel
theorem dX5_stagedAtEnd_69 : decode cX5_stagedAtEnd 69 = .ok (.iconst 0, 1) := by decide +kernel
theorem dX5_stagedAtEnd_70 : decode cX5_stagedAtEnd 70 = .ok (.istore 6, 2) := by decide +kernel
theorem dX5_stagedAtEnd_72 : decode cX5_stagedAtEnd 72 = .ok (.aload_n 0, 1) := by decide +kernel
theorem dX5_stagedAtEnd_73 : decode cX5_stagedAtEnd 73 = .ok (.getfield 24, 3) := by decide +kernel
theorem dX5_stagedAtEnd_76 : decode cX5_stagedAtEnd 76 = .ok (.iload 4, 2) := by decide +kernel
theorem dX5_stagedAtEnd_78 : decode cX5_stagedAtEnd 78 = .ok (.iaload, 1) := by decide +kernel
theorem dX5_stagedAtEnd_79 : decode cX5_stagedAtEnd 79 = .ok (.iconst (-1), 1) := by decide +kernel
theorem dX5_stagedAtEnd_80 : decode cX5_stagedAtEnd 80 = .ok (.if_icmp .eq 18, 3) := by decide +kernel
theorem dX5_stagedAtEnd_83 : decode cX5_stagedAtEnd 83 = .ok (.aload_n 0, 1) := by decide +kernel
theorem dX5_stagedAtEnd_84 : decode cX5_stagedAtEnd 84 = .ok (.getfield 24, 3) := by decide +kernel
theorem dX5_stagedAtEnd_87 : decode cX5_stagedAtEnd 87 = .ok (.iload 4, 2) := by decide +kernel
theorem dX5_stagedAtEnd_89 : decode cX5_stagedAtEnd 89 = .ok (.iaload, 1) := by decide +kernel
theorem dX5_stagedAtEnd_90 : decode cX5_stagedAtEnd 90 = .ok (.iload_n 1, 1) := by decide +kernel
theorem dX5_stagedAtEnd_91 : decode cX5_stagedAtEnd 91 = .ok (.if_icmp .gt 7, 3) := by decide +kernel
theorem dX5_stagedAtEnd_94 : decode cX5_stagedAtEnd 94 = .ok (.iconst 1, 1) := by decide +kernel
theorem dX5_stagedAtEnd_95 : decode cX5_stagedAtEnd 95 = .ok (.goto 4, 3) := by decide +kernel
theorem dX5_stagedAtEnd_98 : decode cX5_stagedAtEnd 98 = .ok (.iconst 0, 1) := by decide +kernel
theorem dX5_stagedAtEnd_99 : decode cX5_stagedAtEnd 99 = .ok (.istore 7, 2) := by decide +kernel
theorem dX5_stagedAtEnd_101 : decode cX5_stagedAtEnd 101 = .ok (.iload 5, 2) := by decide +kernel
theorem dX5_stagedAtEnd_103 : decode cX5_stagedAtEnd 103 = .ok (.ifCond .eq 16, 3) := by decide +kernel
theorem dX5_stagedAtEnd_106 : decode cX5_stagedAtEnd 106 = .ok (.iload 6, 2) := by decide +kernel
theorem dX5_stagedAtEnd_108 : decode cX5_stagedAtEnd 108 = .ok (.ifCond .eq 11, 3) := by decide +kernel
theorem dX5_stagedAtEnd_111 : decode cX5_stagedAtEnd 111 = .ok (.iload 7, 2) := by decide +kernel
theorem dX5_stagedAtEnd_113 : decode cX5_stagedAtEnd 113 = .ok (.ifCond .ne 6, 3) := by decide +kernel
theorem dX5_stagedAtEnd_116 : decode cX5_stagedAtEnd 116 = .ok (.iinc 3 1, 3) := by decide +kernel
theorem dX5_stagedAtEnd_119 : decode cX5_stagedAtEnd 119 = .ok (.iinc 4 1, 3) := by decide +kernel
theorem dX5_stagedAtEnd_122 : decode cX5_stagedAtEnd 122 = .ok (.goto (-117), 3) := by decide +kernel
theorem dX5_stagedAtEnd_125 : decode cX5_stagedAtEnd 125 = .ok (.iload_n 3, 1) := by decide +kernel
theorem dX5_stagedAtEnd_126 : decode cX5_stagedAtEnd 126 = .ok (.ireturn, 1) := by decide +kernel
theorem dX5_mostStaged_0 : decode cX5_mostStaged 0 = .ok (.iconst 0, 1) := by decide +kernel
theorem dX5_mostStaged_1 : decode cX5_mostStaged 1 = .ok (.istore_n 1, 1) := by decide +kernel
theorem dX5_mostStaged_2 : decode cX5_mostStaged 2 = .ok (.iconst 0, 1) := by decide +kernel
theorem dX5_mostStaged_3 : decode cX5_mostStaged 3 = .ok (.istore_n 2, 1) := by decide +kernel
theorem dX5_mostStaged_4 : decode cX5_mostStaged 4 = .ok (.iload_n 2, 1) := by decide +kernel
theorem dX5_mostStaged_5 : decode cX5_mostStaged 5 = .ok (.sipush 200, 3) := by decide +kernel
theorem dX5_mostStaged_8 : decode cX5_mostStaged 8 = .ok (.if_icmp .ge 20, 3) := by decide +kernel
theorem dX5_mostStaged_11 : decode cX5_mostStaged 11 = .ok (.iload_n 1, 1) := by decide +kernel
theorem dX5_mostStaged_12 : decode cX5_mostStaged 12 = .ok (.aload_n 0, 1) := by decide +kernel
theorem dX5_mostStaged_13 : decode cX5_mostStaged 13 = .ok (.iload_n 2, 1) := by decide +kernel
theorem dX5_mostStaged_14 : decode cX5_mostStaged 14 = .ok (.iconst (-1), 1) := by decide +kernel
theorem dX5_mostStaged_15 : decode cX5_mostStaged 15 = .ok (.invokevirtual 211, 3) := by decide +kernel
theorem dX5_mostStaged_18 : decode cX5_mostStaged 18 = .ok (.invokestatic 177, 3) := by decide +kernel
theorem dX5_mostStaged_21 : decode cX5_mostStaged 21 = .ok (.istore_n 1, 1) := by decide +kernel
theorem dX5_mostStaged_22 : decode cX5_mostStaged 22 = .ok (.iinc 2 1, 3) := by decide +kernel
theorem dX5_mostStaged_25 : decode cX5_mostStaged 25 = .ok (.goto (-21), 3) := by decide +kernel
theorem dX5_mostStaged_28 : decode cX5_mostStaged 28 = .ok (.iload_n 1, 1) := by decide +kernel
theorem dX5_mostStaged_29 : decode cX5_mostStaged 29 = .ok (.ireturn, 1) := by decide +kernel
theorem dX5_firstFullest_0 : decode cX5_firstFullest 0 = .ok (.iconst 0, 1) := by decide +kernel
theorem dX5_firstFullest_1 : decode cX5_firstFullest 1 = .ok (.istore_n 1, 1) := by decide +kernel
theorem dX5_firstFullest_2 : decode cX5_firstFullest 2 = .ok (.iconst (-1), 1) := by decide +kernel
theorem dX5_firstFullest_3 : decode cX5_firstFullest 3 = .ok (.istore_n 2, 1) := by decide +kernel
theorem dX5_firstFullest_4 : decode cX5_firstFullest 4 = .ok (.iconst 0, 1) := by decide +kernel
theorem dX5_firstFullest_5 : decode cX5_firstFullest 5 = .ok (.istore_n 3, 1) := by decide +kernel
theorem dX5_firstFullest_6 : decode cX5_firstFullest 6 = .ok (.iload_n 3, 1) := by decide +kernel
theorem dX5_firstFullest_7 : decode cX5_firstFullest 7 = .ok (.sipush 200, 3) := by decide +kernel
theorem dX5_firstFullest_10 : decode cX5_firstFullest 10 = .ok (.if_icmp .ge 28, 3) := by decide +kernel
theorem dX5_firstFullest_13 : decode cX5_firstFullest 13 = .ok (.aload_n 0, 1) := by decide +kernel
theorem dX5_firstFullest_14 : decode cX5_firstFullest 14 = .ok (.iload_n 3, 1) := by decide +kernel
theorem dX5_firstFullest_15 : decode cX5_firstFullest 15 = .ok (.iconst (-1), 1) := by decide +kernel
theorem dX5_firstFullest_16 : decode cX5_firstFullest 16 = .ok (.invokevirtual 211, 3) := by decide +kernel
theorem dX5_firstFullest_19 : decode cX5_firstFullest 19 = .ok (.istore 4, 2) := by decide +kernel
theorem dX5_firstFullest_21 : decode cX5_firstFullest 21 = .ok (.iload 4, 2) := by decide +kernel
theorem dX5_firstFullest_23 : decode cX5_firstFullest 23 = .ok (.iload_n 1, 1) := by decide +kernel
theorem dX5_firstFullest_24 : decode cX5_firstFullest 24 = .ok (.if_icmp .le 8, 3) := by decide +kernel
theorem dX5_firstFullest_27 : decode cX5_firstFullest 27 = .ok (.iload 4, 2) := by decide +kernel
theorem dX5_firstFullest_29 : decode cX5_firstFullest 29 = .ok (.istore_n 1, 1) := by decide +kernel
theorem dX5_firstFullest_30 : decode cX5_firstFullest 30 = .ok (.iload_n 3, 1) := by decide +kernel
theorem dX5_firstFullest_31 : decode cX5_firstFullest 31 = .ok (.istore_n 2, 1) := by decide +kernel
theorem dX5_firstFullest_32 : decode cX5_firstFullest 32 = .ok (.iinc 3 1, 3) := by decide +kernel
theorem dX5_firstFullest_35 : decode cX5_firstFullest 35 = .ok (.goto (-29), 3) := by decide +kernel
theorem dX5_firstFullest_38 : decode cX5_firstFullest 38 = .ok (.iload_n 2, 1) := by decide +kernel
theorem dX5_firstFullest_39 : decode cX5_firstFullest 39 = .ok (.ireturn, 1) := by decide +kernel
theorem dX5_lastLeaving_0 : decode cX5_lastLeaving 0 = .ok (.iconst (-1), 1) := by decide +kernel
theorem dX5_lastLeaving_1 : decode cX5_lastLeaving 1 = .ok (.istore_n 1, 1) := by decide +kernel
theorem dX5_lastLeaving_2 : decode cX5_lastLeaving 2 = .ok (.iconst 0, 1) := by decide +kernel
theorem dX5_lastLeaving_3 : decode cX5_lastLeaving 3 = .ok (.istore_n 2, 1) := by decide +kernel
theorem dX5_lastLeaving_4 : decode cX5_lastLeaving 4 = .ok (.iload_n 2, 1) := by decide +kernel
theorem dX5_lastLeaving_5 : decode cX5_lastLeaving 5 = .ok (.aload_n 0, 1) := by decide +kernel
theorem dX5_lastLeaving_6 : decode cX5_lastLeaving 6 = .ok (.getfield 51, 3) := by decide +kernel
theorem dX5_lastLeaving_9 : decode cX5_lastLeaving 9 = .ok (.getfield 124, 3) := by decide +kernel
theorem dX5_lastLeaving_12 : decode cX5_lastLeaving 12 = .ok (.if_icmp .ge 20, 3) := by decide +kernel
theorem dX5_lastLeaving_15 : decode cX5_lastLeaving 15 = .ok (.iload_n 1, 1) := by decide +kernel
theorem dX5_lastLeaving_16 : decode cX5_lastLeaving 16 = .ok (.aload_n 0, 1) := by decide +kernel
theorem dX5_lastLeaving_17 : decode cX5_lastLeaving 17 = .ok (.getfield 15, 3) := by decide +kernel
theorem dX5_lastLeaving_20 : decode cX5_lastLeaving 20 = .ok (.iload_n 2, 1) := by decide +kernel
theorem dX5_lastLeaving_21 : decode cX5_lastLeaving 21 = .ok (.iaload, 1) := by decide +kernel
theorem dX5_lastLeaving_22 : decode cX5_lastLeaving 22 = .ok (.invokestatic 177, 3) := by decide +kernel
theorem dX5_lastLeaving_25 : decode cX5_lastLeaving 25 = .ok (.istore_n 1, 1) := by decide +kernel
theorem dX5_lastLeaving_26 : decode cX5_lastLeaving 26 = .ok (.iinc 2 1, 3) := by decide +kernel
theorem dX5_lastLeaving_29 : decode cX5_lastLeaving 29 = .ok (.goto (-25), 3) := by decide +kernel
theorem dX5_lastLeaving_32 : decode cX5_lastLeaving 32 = .ok (.iload_n 1, 1) := by decide +kernel
theorem dX5_lastLeaving_33 : decode cX5_lastLeaving 33 = .ok (.ireturn, 1) := by decide +kernel
theorem dX5_neverLeaving_0 : decode cX5_neverLeaving 0 = .ok (.iconst 0, 1) := by decide +kernel
theorem dX5_neverLeaving_1 : decode cX5_neverLeaving 1 = .ok (.istore_n 1, 1) := by decide +kernel
theorem dX5_neverLeaving_2 : decode cX5_neverLeaving 2 = .ok (.iconst 0, 1) := by decide +kernel
theorem dX5_neverLeaving_3 : decode cX5_neverLeaving 3 = .ok (.istore_n 2, 1) := by decide +kernel
theorem dX5_neverLeaving_4 : decode cX5_neverLeaving 4 = .ok (.iload_n 2, 1) := by decide +kernel
theorem dX5_neverLeaving_5 : decode cX5_neverLeaving 5 = .ok (.aload_n 0, 1) := by decide +kernel
theorem dX5_neverLeaving_6 : decode cX5_neverLeaving 6 = .ok (.getfield 51, 3) := by decide +kernel
theorem dX5_neverLeaving_9 : decode cX5_neverLeaving 9 = .ok (.getfield 124, 3) := by decide +kernel
theorem dX5_neverLeaving_12 : decode cX5_neverLeaving 12 = .ok (.if_icmp .ge 27, 3) := by decide +kernel
theorem dX5_neverLeaving_15 : decode cX5_neverLeaving 15 = .ok (.iload_n 1, 1) := by decide +kernel
theorem dX5_neverLeaving_16 : decode cX5_neverLeaving 16 = .ok (.aload_n 0, 1) := by decide +kernel
theorem dX5_neverLeaving_17 : decode cX5_neverLeaving 17 = .ok (.getfield 15, 3) := by decide +kernel
theorem dX5_neverLeaving_20 : decode cX5_neverLeaving 20 = .ok (.iload_n 2, 1) := by decide +kernel
theorem dX5_neverLeaving_21 : decode cX5_neverLeaving 21 = .ok (.iaload, 1) := by decide +kernel
theorem dX5_neverLeaving_22 : decode cX5_neverLeaving 22 = .ok (.iconst (-1), 1) := by decide +kernel
theorem dX5_neverLeaving_23 : decode cX5_neverLeaving 23 = .ok (.if_icmp .ne 7, 3) := by decide +kernel
theorem dX5_neverLeaving_26 : decode cX5_neverLeaving 26 = .ok (.iconst 1, 1) := by decide +kernel
theorem dX5_neverLeaving_27 : decode cX5_neverLeaving 27 = .ok (.goto 4, 3) := by decide +kernel
theorem dX5_neverLeaving_30 : decode cX5_neverLeaving 30 = .ok (.iconst 0, 1) := by decide +kernel
theorem dX5_neverLeaving_31 : decode cX5_neverLeaving 31 = .ok (.iadd, 1) := by decide +kernel
theorem dX5_neverLeaving_32 : decode cX5_neverLeaving 32 = .ok (.istore_n 1, 1) := by decide +kernel
theorem dX5_neverLeaving_33 : decode cX5_neverLeaving 33 = .ok (.iinc 2 1, 3) := by decide +kernel
theorem dX5_neverLeaving_36 : decode cX5_neverLeaving 36 = .ok (.goto (-32), 3) := by decide +kernel
theorem dX5_neverLeaving_39 : decode cX5_neverLeaving 39 = .ok (.iload_n 1, 1) := by decide +kernel
theorem dX5_neverLeaving_40 : decode cX5_neverLeaving 40 = .ok (.ireturn, 1) := by decide +kernel
theorem dX5_lastMinuteOf_0 : decode cX5_lastMinuteOf 0 = .ok (.aload_n 0, 1) := by decide +kernel
theorem dX5_lastMinuteOf_1 : decode cX5_lastMinuteOf 1 = .ok (.getfield 15, 3) := by decide +kernel
theorem dX5_lastMinuteOf_4 : decode cX5_lastMinuteOf 4 = .ok (.iload_n 1, 1) := by decide +kernel
theorem dX5_lastMinuteOf_5 : decode cX5_lastMinuteOf 5 = .ok (.iaload, 1) := by decide +kernel
theorem dX5_lastMinuteOf_6 : decode cX5_lastMinuteOf 6 = .ok (.iconst (-1), 1) := by decide +kernel
theorem dX5_lastMinuteOf_7 : decode cX5_lastMinuteOf 7 = .ok (.if_icmp .ne 9, 3) := by decide +kernel
theorem dX5_lastMinuteOf_10 : decode cX5_lastMinuteOf 10 = .ok (.sipush 199, 3) := by decide +kernel
theorem dX5_lastMinuteOf_13 : decode cX5_lastMinuteOf 13 = .ok (.goto 9, 3) := by decide +kernel
theorem dX5_lastMinuteOf_16 : decode cX5_lastMinuteOf 16 = .ok (.aload_n 0, 1) := by decide +kernel
theorem dX5_lastMinuteOf_17 : decode cX5_lastMinuteOf 17 = .ok (.getfield 15, 3) := by decide +kernel
theorem dX5_lastMinuteOf_20 : decode cX5_lastMinuteOf 20 = .ok (.iload_n 1, 1) := by decide +kernel
theorem dX5_lastMinuteOf_21 : decode cX5_lastMinuteOf 21 = .ok (.iaload, 1) := by decide +kernel
theorem dX5_lastMinuteOf_22 : decode cX5_lastMinuteOf 22 = .ok (.ireturn, 1) := by decide +kernel
theorem dX5_minutesOf_0 : decode cX5_minutesOf 0 = .ok (.aload_n 0, 1) := by decide +kernel
theorem dX5_minutesOf_1 : decode cX5_minutesOf 1 = .ok (.getfield 9, 3) := by decide +kernel
theorem dX5_minutesOf_4 : decode cX5_minutesOf 4 = .ok (.iload_n 1, 1) := by decide +kernel
theorem dX5_minutesOf_5 : decode cX5_minutesOf 5 = .ok (.iaload, 1) := by decide +kernel
theorem dX5_minutesOf_6 : decode cX5_minutesOf 6 = .ok (.iconst (-1), 1) := by decide +kernel
theorem dX5_minutesOf_7 : decode cX5_minutesOf 7 = .ok (.if_icmp .ne 7, 3) := by decide +kernel
theorem dX5_minutesOf_10 : decode cX5_minutesOf 10 = .ok (.iconst 0, 1) := by decide +kernel
theorem dX5_minutesOf_11 : decode cX5_minutesOf 11 = .ok (.goto 17, 3) := by decide +kernel
theorem dX5_minutesOf_14 : decode cX5_minutesOf 14 = .ok (.aload_n 0, 1) := by decide +kernel
theorem dX5_minutesOf_15 : decode cX5_minutesOf 15 = .ok (.iload_n 1, 1) := by decide +kernel
theorem dX5_minutesOf_16 : decode cX5_minutesOf 16 = .ok (.invokevirtual 214, 3) := by decide +kernel
theorem dX5_minutesOf_19 : decode cX5_minutesOf 19 = .ok (.aload_n 0, 1) := by decide +kernel
theorem dX5_minutesOf_20 : decode cX5_minutesOf 20 = .ok (.getfield 9, 3) := by decide +kernel
theorem dX5_minutesOf_23 : decode cX5_minutesOf 23 = .ok (.iload_n 1, 1) := by decide +kernel
theorem dX5_minutesOf_24 : decode cX5_minutesOf 24 = .ok (.iaload, 1) := by decide +kernel
theorem dX5_minutesOf_25 : decode cX5_minutesOf 25 = .ok (.isub, 1) := by decide +kernel
theorem dX5_minutesOf_26 : decode cX5_minutesOf 26 = .ok (.iconst 1, 1) := by decide +kernel
theorem dX5_minutesOf_27 : decode cX5_minutesOf 27 = .ok (.iadd, 1) := by decide +kernel
theorem dX5_minutesOf_28 : decode cX5_minutesOf 28 = .ok (.ireturn, 1) := by decide +kernel
theorem dX5_idleMinutes_0 : decode cX5_idleMinutes 0 = .ok (.iconst 0, 1) := by decide +kernel
theorem dX5_idleMinutes_1 : decode cX5_idleMinutes 1 = .ok (.istore_n 1, 1) := by decide +kernel
theorem dX5_idleMinutes_2 : decode cX5_idleMinutes 2 = .ok (.iconst 0, 1) := by decide +kernel
theorem dX5_idleMinutes_3 : decode cX5_idleMinutes 3 = .ok (.istore_n 2, 1) := by decide +kernel
theorem dX5_idleMinutes_4 : decode cX5_idleMinutes 4 = .ok (.iload_n 2, 1) := by decide +kernel
theorem dX5_idleMinutes_5 : decode cX5_idleMinutes 5 = .ok (.aload_n 0, 1) := by decide +kernel
theorem dX5_idleMinutes_6 : decode cX5_idleMinutes 6 = .ok (.getfield 51, 3) := by decide +kernel
theorem dX5_idleMinutes_9 : decode cX5_idleMinutes 9 = .ok (.getfield 124, 3) := by decide +kernel
theorem dX5_idleMinutes_12 : decode cX5_idleMinutes 12 = .ok (.if_icmp .ge 40, 3) := by decide +kernel
theorem dX5_idleMinutes_15 : decode cX5_idleMinutes 15 = .ok (.iload_n 1, 1) := by decide +kernel
theorem dX5_idleMinutes_16 : decode cX5_idleMinutes 16 = .ok (.aload_n 0, 1) := by decide +kernel
theorem dX5_idleMinutes_17 : decode cX5_idleMinutes 17 = .ok (.getfield 51, 3) := by decide +kernel
theorem dX5_idleMinutes_20 : decode cX5_idleMinutes 20 = .ok (.getfield 198, 3) := by decide +kernel
theorem dX5_idleMinutes_23 : decode cX5_idleMinutes 23 = .ok (.iload_n 2, 1) := by decide +kernel
theorem dX5_idleMinutes_24 : decode cX5_idleMinutes 24 = .ok (.iaload, 1) := by decide +kernel
theorem dX5_idleMinutes_25 : decode cX5_idleMinutes 25 = .ok (.ifCond .ne 18, 3) := by decide +kernel
theorem dX5_idleMinutes_28 : decode cX5_idleMinutes 28 = .ok (.aload_n 0, 1) := by decide +kernel
theorem dX5_idleMinutes_29 : decode cX5_idleMinutes 29 = .ok (.iload_n 2, 1) := by decide +kernel
theorem dX5_idleMinutes_30 : decode cX5_idleMinutes 30 = .ok (.invokevirtual 217, 3) := by decide +kernel
theorem dX5_idleMinutes_33 : decode cX5_idleMinutes 33 = .ok (.aload_n 0, 1) := by decide +kernel
theorem dX5_idleMinutes_34 : decode cX5_idleMinutes 34 = .ok (.getfield 18, 3) := by decide +kernel
theorem dX5_idleMinutes_37 : decode cX5_idleMinutes 37 = .ok (.iload_n 2, 1) := by decide +kernel
theorem dX5_idleMinutes_38 : decode cX5_idleMinutes 38 = .ok (.iaload, 1) := by decide +kernel
theorem dX5_idleMinutes_39 : decode cX5_idleMinutes 39 = .ok (.isub, 1) := by decide +kernel
theorem dX5_idleMinutes_40 : decode cX5_idleMinutes 40 = .ok (.goto 4, 3) := by decide +kernel
theorem dX5_idleMinutes_43 : decode cX5_idleMinutes 43 = .ok (.iconst 0, 1) := by decide +kernel
theorem dX5_idleMinutes_44 : decode cX5_idleMinutes 44 = .ok (.iadd, 1) := by decide +kernel
theorem dX5_idleMinutes_45 : decode cX5_idleMinutes 45 = .ok (.istore_n 1, 1) := by decide +kernel
theorem dX5_idleMinutes_46 : decode cX5_idleMinutes 46 = .ok (.iinc 2 1, 3) := by decide +kernel
theorem dX5_idleMinutes_49 : decode cX5_idleMinutes 49 = .ok (.goto (-45), 3) := by decide +kernel
theorem dX5_idleMinutes_52 : decode cX5_idleMinutes 52 = .ok (.iload_n 1, 1) := by decide +kernel
theorem dX5_idleMinutes_53 : decode cX5_idleMinutes 53 = .ok (.ireturn, 1) := by decide +kernel
theorem dX5_minutesTakenAt_0 : decode cX5_minutesTakenAt 0 = .ok (.iconst 0, 1) := by decide +kernel
theorem dX5_minutesTakenAt_1 : decode cX5_minutesTakenAt 1 = .ok (.istore_n 2, 1) := by decide +kernel
theorem dX5_minutesTakenAt_2 : decode cX5_minutesTakenAt 2 = .ok (.iconst 0, 1) := by decide +kernel
theorem dX5_minutesTakenAt_3 : decode cX5_minutesTakenAt 3 = .ok (.istore_n 3, 1) := by decide +kernel
theorem dX5_minutesTakenAt_4 : decode cX5_minutesTakenAt 4 = .ok (.iload_n 3, 1) := by decide +kernel
theorem dX5_minutesTakenAt_5 : decode cX5_minutesTakenAt 5 = .ok (.aload_n 0, 1) := by decide +kernel
theorem dX5_minutesTakenAt_6 : decode cX5_minutesTakenAt 6 = .ok (.getfield 51, 3) := by decide +kernel
theorem dX5_minutesTakenAt_9 : decode cX5_minutesTakenAt 9 = .ok (.getfield 124, 3) := by decide +kernel
theorem dX5_minutesTakenAt_12 : decode cX5_minutesTakenAt 12 = .ok (.if_icmp .ge 34, 3) := by decide +kernel
theorem dX5_minutesTakenAt_15 : decode cX5_minutesTakenAt 15 = .ok (.iload_n 2, 1) := by decide +kernel
theorem dX5_minutesTakenAt_16 : decode cX5_minutesTakenAt 16 = .ok (.aload_n 0, 1) := by decide +kernel
theorem dX5_minutesTakenAt_17 : decode cX5_minutesTakenAt 17 = .ok (.getfield 55, 3) := by decide +kernel
theorem dX5_minutesTakenAt_20 : decode cX5_minutesTakenAt 20 = .ok (.getfield 220, 3) := by decide +kernel
theorem dX5_minutesTakenAt_23 : decode cX5_minutesTakenAt 23 = .ok (.iload_n 3, 1) := by decide +kernel
theorem dX5_minutesTakenAt_24 : decode cX5_minutesTakenAt 24 = .ok (.iaload, 1) := by decide +kernel
theorem dX5_minutesTakenAt_25 : decode cX5_minutesTakenAt 25 = .ok (.iload_n 1, 1) := by decide +kernel
theorem dX5_minutesTakenAt_26 : decode cX5_minutesTakenAt 26 = .ok (.if_icmp .ne 11, 3) := by decide +kernel
theorem dX5_minutesTakenAt_29 : decode cX5_minutesTakenAt 29 = .ok (.aload_n 0, 1) := by decide +kernel
theorem dX5_minutesTakenAt_30 : decode cX5_minutesTakenAt 30 = .ok (.iload_n 3, 1) := by decide +kernel
theorem dX5_minutesTakenAt_31 : decode cX5_minutesTakenAt 31 = .ok (.invokevirtual 217, 3) := by decide +kernel
theorem dX5_minutesTakenAt_34 : decode cX5_minutesTakenAt 34 = .ok (.goto 4, 3) := by decide +kernel
theorem dX5_minutesTakenAt_37 : decode cX5_minutesTakenAt 37 = .ok (.iconst 0, 1) := by decide +kernel
theorem dX5_minutesTakenAt_38 : decode cX5_minutesTakenAt 38 = .ok (.iadd, 1) := by decide +kernel
theorem dX5_minutesTakenAt_39 : decode cX5_minutesTakenAt 39 = .ok (.istore_n 2, 1) := by decide +kernel
theorem dX5_minutesTakenAt_40 : decode cX5_minutesTakenAt 40 = .ok (.iinc 3 1, 3) := by decide +kernel
theorem dX5_minutesTakenAt_43 : decode cX5_minutesTakenAt 43 = .ok (.goto (-39), 3) := by decide +kernel
theorem dX5_minutesTakenAt_46 : decode cX5_minutesTakenAt 46 = .ok (.iload_n 2, 1) := by decide +kernel
theorem dX5_minutesTakenAt_47 : decode cX5_minutesTakenAt 47 = .ok (.ireturn, 1) := by decide +kernel
theorem dX5_handledAt_0 : decode cX5_handledAt 0 = .ok (.iconst 0, 1) := by decide +kernel
theorem dX5_handledAt_1 : decode cX5_handledAt 1 = .ok (.istore_n 2, 1) := by decide +kernel
theorem dX5_handledAt_2 : decode cX5_handledAt 2 = .ok (.iconst 0, 1) := by decide +kernel
theorem dX5_handledAt_3 : decode cX5_handledAt 3 = .ok (.istore_n 3, 1) := by decide +kernel
theorem dX5_handledAt_4 : decode cX5_handledAt 4 = .ok (.iload_n 3, 1) := by decide +kernel
theorem dX5_handledAt_5 : decode cX5_handledAt 5 = .ok (.aload_n 0, 1) := by decide +kernel
theorem dX5_handledAt_6 : decode cX5_handledAt 6 = .ok (.getfield 51, 3) := by decide +kernel
theorem dX5_handledAt_9 : decode cX5_handledAt 9 = .ok (.getfield 124, 3) := by decide +kernel
theorem dX5_handledAt_12 : decode cX5_handledAt 12 = .ok (.if_icmp .ge 35, 3) := by decide +kernel
theorem dX5_handledAt_15 : decode cX5_handledAt 15 = .ok (.iload_n 2, 1) := by decide +kernel
theorem dX5_handledAt_16 : decode cX5_handledAt 16 = .ok (.aload_n 0, 1) := by decide +kernel
theorem dX5_handledAt_17 : decode cX5_handledAt 17 = .ok (.getfield 55, 3) := by decide +kernel
theorem dX5_handledAt_20 : decode cX5_handledAt 20 = .ok (.getfield 220, 3) := by decide +kernel
theorem dX5_handledAt_23 : decode cX5_handledAt 23 = .ok (.iload_n 3, 1) := by decide +kernel
theorem dX5_handledAt_24 : decode cX5_handledAt 24 = .ok (.iaload, 1) := by decide +kernel
theorem dX5_handledAt_25 : decode cX5_handledAt 25 = .ok (.iload_n 1, 1) := by decide +kernel
theorem dX5_handledAt_26 : decode cX5_handledAt 26 = .ok (.if_icmp .ne 12, 3) := by decide +kernel
theorem dX5_handledAt_29 : decode cX5_handledAt 29 = .ok (.aload_n 0, 1) := by decide +kernel
theorem dX5_handledAt_30 : decode cX5_handledAt 30 = .ok (.getfield 18, 3) := by decide +kernel
theorem dX5_handledAt_33 : decode cX5_handledAt 33 = .ok (.iload_n 3, 1) := by decide +kernel
theorem dX5_handledAt_34 : decode cX5_handledAt 34 = .ok (.iaload, 1) := by decide +kernel
theorem dX5_handledAt_35 : decode cX5_handledAt 35 = .ok (.goto 4, 3) := by decide +kernel
theorem dX5_handledAt_38 : decode cX5_handledAt 38 = .ok (.iconst 0, 1) := by decide +kernel
theorem dX5_handledAt_39 : decode cX5_handledAt 39 = .ok (.iadd, 1) := by decide +kernel
theorem dX5_handledAt_40 : decode cX5_handledAt 40 = .ok (.istore_n 2, 1) := by decide +kernel
theorem dX5_handledAt_41 : decode cX5_handledAt 41 = .ok (.iinc 3 1, 3) := by decide +kernel
theorem dX5_handledAt_44 : decode cX5_handledAt 44 = .ok (.goto (-40), 3) := by decide +kernel
theorem dX5_handledAt_47 : decode cX5_handledAt 47 = .ok (.iload_n 2, 1) := by decide +kernel
theorem dX5_handledAt_48 : decode cX5_handledAt 48 = .ok (.ireturn, 1) := by decide +kernel
theorem dX5_standingAt_0 : decode cX5_standingAt 0 = .ok (.iconst 0, 1) := by decide +kernel
theorem dX5_standingAt_1 : decode cX5_standingAt 1 = .ok (.istore_n 3, 1) := by decide +kernel
theorem dX5_standingAt_2 : decode cX5_standingAt 2 = .ok (.iload_n 3, 1) := by decide +kernel
theorem dX5_standingAt_3 : decode cX5_standingAt 3 = .ok (.aload_n 0, 1) := by decide +kernel
theorem dX5_standingAt_4 : decode cX5_standingAt 4 = .ok (.getfield 51, 3) := by decide +kernel
theorem dX5_standingAt_7 : decode cX5_standingAt 7 = .ok (.getfield 124, 3) := by decide +kernel
theorem dX5_standingAt_10 : decode cX5_standingAt 10 = .ok (.if_icmp .ge 65, 3) := by decide +kernel
theorem dX5_standingAt_13 : decode cX5_standingAt 13 = .ok (.aload_n 0, 1) := by decide +kernel
theorem dX5_standingAt_14 : decode cX5_standingAt 14 = .ok (.getfield 9, 3) := by decide +kernel
theorem dX5_standingAt_17 : decode cX5_standingAt 17 = .ok (.iload_n 3, 1) := by decide +kernel
theorem dX5_standingAt_18 : decode cX5_standingAt 18 = .ok (.iaload, 1) := by decide +kernel
theorem dX5_standingAt_19 : decode cX5_standingAt 19 = .ok (.iconst (-1), 1) := by decide +kernel
theorem dX5_standingAt_20 : decode cX5_standingAt 20 = .ok (.if_icmp .eq 17, 3) := by decide +kernel
theorem dX5_standingAt_23 : decode cX5_standingAt 23 = .ok (.aload_n 0, 1) := by decide +kernel
theorem dX5_standingAt_24 : decode cX5_standingAt 24 = .ok (.getfield 9, 3) := by decide +kernel
theorem dX5_standingAt_27 : decode cX5_standingAt 27 = .ok (.iload_n 3, 1) := by decide +kernel
theorem dX5_standingAt_28 : decode cX5_standingAt 28 = .ok (.iaload, 1) := by decide +kernel
theorem dX5_standingAt_29 : decode cX5_standingAt 29 = .ok (.iload_n 2, 1) := by decide +kernel
theorem dX5_standingAt_30 : decode cX5_standingAt 30 = .ok (.if_icmp .gt 7, 3) := by decide +kernel
theorem dX5_standingAt_33 : decode cX5_standingAt 33 = .ok (.iconst 1, 1) := by decide +kernel
theorem dX5_standingAt_34 : decode cX5_standingAt 34 = .ok (.goto 4, 3) := by decide +kernel
theorem dX5_standingAt_37 : decode cX5_standingAt 37 = .ok (.iconst 0, 1) := by decide +kernel
theorem dX5_standingAt_38 : decode cX5_standingAt 38 = .ok (.istore 4, 2) := by decide +kernel
theorem dX5_standingAt_40 : decode cX5_standingAt 40 = .ok (.aload_n 0, 1) := by decide +kernel
theorem dX5_standingAt_41 : decode cX5_standingAt 41 = .ok (.getfield 55, 3) := by decide +kernel
theorem dX5_standingAt_44 : decode cX5_standingAt 44 = .ok (.getfield 220, 3) := by decide +kernel
theorem dX5_standingAt_47 : decode cX5_standingAt 47 = .ok (.iload_n 3, 1) := by decide +kernel
theorem dX5_standingAt_48 : decode cX5_standingAt 48 = .ok (.iaload, 1) := by decide +kernel
theorem dX5_standingAt_49 : decode cX5_standingAt 49 = .ok (.iload_n 1, 1) := by decide +kernel
theorem dX5_standingAt_50 : decode cX5_standingAt 50 = .ok (.if_icmp .ne 19, 3) := by decide +kernel
theorem dX5_standingAt_53 : decode cX5_standingAt 53 = .ok (.iload 4, 2) := by decide +kernel
theorem dX5_standingAt_55 : decode cX5_standingAt 55 = .ok (.ifCond .eq 14, 3) := by decide +kernel
theorem dX5_standingAt_58 : decode cX5_standingAt 58 = .ok (.iload_n 2, 1) := by decide +kernel
theorem dX5_standingAt_59 : decode cX5_standingAt 59 = .ok (.aload_n 0, 1) := by decide +kernel
theorem dX5_standingAt_60 : decode cX5_standingAt 60 = .ok (.iload_n 3, 1) := by decide +kernel
theorem dX5_standingAt_61 : decode cX5_standingAt 61 = .ok (.invokevirtual 214, 3) := by decide +kernel
theorem dX5_standingAt_64 : decode cX5_standingAt 64 = .ok (.if_icmp .gt 5, 3) := by decide +kernel
theorem dX5_standingAt_67 : decode cX5_standingAt 67 = .ok (.iload_n 3, 1) := by decide +kernel
theorem dX5_standingAt_68 : decode cX5_standingAt 68 = .ok (.ireturn, 1) := by decide +kernel
theorem dX5_standingAt_69 : decode cX5_standingAt 69 = .ok (.iinc 3 1, 3) := by decide +kernel
theorem dX5_standingAt_72 : decode cX5_standingAt 72 = .ok (.goto (-70), 3) := by decide +kernel
theorem dX5_standingAt_75 : decode cX5_standingAt 75 = .ok (.iconst (-1), 1) := by decide +kernel
theorem dX5_standingAt_76 : decode cX5_standingAt 76 = .ok (.ireturn, 1) := by decide +kernel
theorem dX6_init_0 : decode cX6_init 0 = .ok (.aload_n 0, 1) := by decide +kernel
theorem dX6_init_1 : decode cX6_init 1 = .ok (.invokespecial 3, 3) := by decide +kernel
theorem dX6_init_4 : decode cX6_init 4 = .ok (.aload_n 0, 1) := by decide +kernel
theorem dX6_init_5 : decode cX6_init 5 = .ok (.sipush 400, 3) := by decide +kernel
theorem dX6_init_8 : decode cX6_init 8 = .ok (.newarray .byte, 2) := by decide +kernel
theorem dX6_init_10 : decode cX6_init 10 = .ok (.putfield 9, 3) := by decide +kernel
theorem dX6_init_13 : decode cX6_init 13 = .ok (.return_, 1) := by decide +kernel
theorem dX6_byteOf_0 : decode cX6_byteOf 0 = .ok (.lload_n 0, 1) := by decide +kernel
theorem dX6_byteOf_1 : decode cX6_byteOf 1 = .ok (.bipush 8, 2) := by decide +kernel
theorem dX6_byteOf_3 : decode cX6_byteOf 3 = .ok (.bipush 7, 2) := by decide +kernel
theorem dX6_byteOf_5 : decode cX6_byteOf 5 = .ok (.iload_n 2, 1) := by decide +kernel
theorem dX6_byteOf_6 : decode cX6_byteOf 6 = .ok (.isub, 1) := by decide +kernel
theorem dX6_byteOf_7 : decode cX6_byteOf 7 = .ok (.imul, 1) := by decide +kernel
theorem dX6_byteOf_8 : decode cX6_byteOf 8 = .ok (.lushr, 1) := by decide +kernel
theorem dX6_byteOf_9 : decode cX6_byteOf 9 = .ok (.l2i, 1) := by decide +kernel
theorem dX6_byteOf_10 : decode cX6_byteOf 10 = .ok (.sipush 255, 3) := by decide +kernel
theorem dX6_byteOf_13 : decode cX6_byteOf 13 = .ok (.iand, 1) := by decide +kernel
theorem dX6_byteOf_14 : decode cX6_byteOf 14 = .ok (.ireturn, 1) := by decide +kernel
theorem dX6_bytesIn_0 : decode cX6_bytesIn 0 = .ok (.iconst 0, 1) := by decide +kernel
theorem dX6_bytesIn_1 : decode cX6_bytesIn 1 = .ok (.istore_n 2, 1) := by decide +kernel
theorem dX6_bytesIn_2 : decode cX6_bytesIn 2 = .ok (.iload_n 2, 1) := by decide +kernel
theorem dX6_bytesIn_3 : decode cX6_bytesIn 3 = .ok (.bipush 8, 2) := by decide +kernel
theorem dX6_bytesIn_5 : decode cX6_bytesIn 5 = .ok (.if_icmp .ge 17, 3) := by decide +kernel
theorem dX6_bytesIn_8 : decode cX6_bytesIn 8 = .ok (.lload_n 0, 1) := by decide +kernel
theorem dX6_bytesIn_9 : decode cX6_bytesIn 9 = .ok (.iload_n 2, 1) := by decide +kernel
theorem dX6_bytesIn_10 : decode cX6_bytesIn 10 = .ok (.invokestatic 15, 3) := by decide +kernel
theorem dX6_bytesIn_13 : decode cX6_bytesIn 13 = .ok (.ifCond .eq 9, 3) := by decide +kernel
theorem dX6_bytesIn_16 : decode cX6_bytesIn 16 = .ok (.iinc 2 1, 3) := by decide +kernel
theorem dX6_bytesIn_19 : decode cX6_bytesIn 19 = .ok (.goto (-17), 3) := by decide +kernel
theorem dX6_bytesIn_22 : decode cX6_bytesIn 22 = .ok (.iload_n 2, 1) := by decide +kernel
theorem dX6_bytesIn_23 : decode cX6_bytesIn 23 = .ok (.ireturn, 1) := by decide +kernel
theorem dX6_append_0 : decode cX6_append 0 = .ok (.iconst 0, 1) := by decide +kernel
theorem dX6_append_1 : decode cX6_append 1 = .ok (.istore 4, 2) := by decide +kernel
theorem dX6_append_3 : decode cX6_append 3 = .ok (.iload 4, 2) := by decide +kernel
theorem dX6_append_5 : decode cX6_append 5 = .ok (.iload_n 3, 1) := by decide +kernel
theorem dX6_append_6 : decode cX6_append 6 = .ok (.if_icmp .ge 45, 3) := by decide +kernel
theorem dX6_append_9 : decode cX6_append 9 = .ok (.aload_n 0, 1) := by decide +kernel
theorem dX6_append_10 : decode cX6_append 10 = .ok (.getfield 19, 3) := by decide +kernel
theorem dX6_append_13 : decode cX6_append 13 = .ok (.sipush 400, 3) := by decide +kernel
theorem dX6_append_16 : decode cX6_append 16 = .ok (.if_icmp .ge 35, 3) := by decide +kernel
theorem dX6_append_19 : decode cX6_append 19 = .ok (.aload_n 0, 1) := by decide +kernel
theorem dX6_append_20 : decode cX6_append 20 = .ok (.getfield 9, 3) := by decide +kernel
theorem dX6_append_23 : decode cX6_append 23 = .ok (.aload_n 0, 1) := by decide +kernel
theorem dX6_append_24 : decode cX6_append 24 = .ok (.getfield 19, 3) := by decide +kernel
theorem dX6_append_27 : decode cX6_append 27 = .ok (.lload_n 1, 1) := by decide +kernel
theorem dX6_append_28 : decode cX6_append 28 = .ok (.iload 4, 2) := by decide +kernel
theorem dX6_append_30 : decode cX6_append 30 = .ok (.invokestatic 15, 3) := by decide +kernel
theorem dX6_append_33 : decode cX6_append 33 = .ok (.i2b, 1) := by decide +kernel
theorem dX6_append_34 : decode cX6_append 34 = .ok (.bastore, 1) := by decide +kernel
theorem dX6_append_35 : decode cX6_append 35 = .ok (.aload_n 0, 1) := by decide +kernel
theorem dX6_append_36 : decode cX6_append 36 = .ok (.dup, 1) := by decide +kernel
theorem dX6_append_37 : decode cX6_append 37 = .ok (.getfield 19, 3) := by decide +kernel
theorem dX6_append_40 : decode cX6_append 40 = .ok (.iconst 1, 1) := by decide +kernel
theorem dX6_append_41 : decode cX6_append 41 = .ok (.iadd, 1) := by decide +kernel
theorem dX6_append_42 : decode cX6_append 42 = .ok (.putfield 19, 3) := by decide +kernel
theorem dX6_append_45 : decode cX6_append 45 = .ok (.iinc 4 1, 3) := by decide +kernel
theorem dX6_append_48 : decode cX6_append 48 = .ok (.goto (-45), 3) := by decide +kernel
theorem dX6_append_51 : decode cX6_append 51 = .ok (.return_, 1) := by decide +kernel
theorem dX6_copyFrom_0 : decode cX6_copyFrom 0 = .ok (.aload_n 1, 1) := by decide +kernel
theorem dX6_copyFrom_1 : decode cX6_copyFrom 1 = .ok (.getfield 9, 3) := by decide +kernel
theorem dX6_copyFrom_4 : decode cX6_copyFrom 4 = .ok (.iconst 0, 1) := by decide +kernel
theorem dX6_copyFrom_5 : decode cX6_copyFrom 5 = .ok (.aload_n 0, 1) := by decide +kernel
theorem dX6_copyFrom_6 : decode cX6_copyFrom 6 = .ok (.getfield 9, 3) := by decide +kernel
theorem dX6_copyFrom_9 : decode cX6_copyFrom 9 = .ok (.iconst 0, 1) := by decide +kernel
theorem dX6_copyFrom_10 : decode cX6_copyFrom 10 = .ok (.sipush 400, 3) := by decide +kernel
theorem dX6_copyFrom_13 : decode cX6_copyFrom 13 = .ok (.invokestatic 23, 3) := by decide +kernel
theorem dX6_copyFrom_16 : decode cX6_copyFrom 16 = .ok (.aload_n 0, 1) := by decide +kernel
theorem dX6_copyFrom_17 : decode cX6_copyFrom 17 = .ok (.aload_n 1, 1) := by decide +kernel
theorem dX6_copyFrom_18 : decode cX6_copyFrom 18 = .ok (.getfield 19, 3) := by decide +kernel
theorem dX6_copyFrom_21 : decode cX6_copyFrom 21 = .ok (.putfield 19, 3) := by decide +kernel
theorem dX6_copyFrom_24 : decode cX6_copyFrom 24 = .ok (.return_, 1) := by decide +kernel
theorem dX7_init_0 : decode cX7_init 0 = .ok (.aload_n 0, 1) := by decide +kernel
theorem dX7_init_1 : decode cX7_init 1 = .ok (.invokespecial 1, 3) := by decide +kernel
theorem dX7_init_4 : decode cX7_init 4 = .ok (.aload_n 0, 1) := by decide +kernel
theorem dX7_init_5 : decode cX7_init 5 = .ok (.new 7, 3) := by decide +kernel
theorem dX7_init_8 : decode cX7_init 8 = .ok (.dup, 1) := by decide +kernel
theorem dX7_init_9 : decode cX7_init 9 = .ok (.invokespecial 9, 3) := by decide +kernel
theorem dX7_init_12 : decode cX7_init 12 = .ok (.putfield 10, 3) := by decide +kernel
theorem dX7_init_15 : decode cX7_init 15 = .ok (.aload_n 0, 1) := by decide +kernel
theorem dX7_init_16 : decode cX7_init 16 = .ok (.new 16, 3) := by decide +kernel
theorem dX7_init_19 : decode cX7_init 19 = .ok (.dup, 1) := by decide +kernel
theorem dX7_init_20 : decode cX7_init 20 = .ok (.aload_n 0, 1) := by decide +kernel
theorem dX7_init_21 : decode cX7_init 21 = .ok (.getfield 10, 3) := by decide +kernel
theorem dX7_init_24 : decode cX7_init 24 = .ok (.invokespecial 18, 3) := by decide +kernel
theorem dX7_init_27 : decode cX7_init 27 = .ok (.putfield 21, 3) := by decide +kernel
theorem dX7_init_30 : decode cX7_init 30 = .ok (.aload_n 0, 1) := by decide +kernel
theorem dX7_init_31 : decode cX7_init 31 = .ok (.new 25, 3) := by decide +kernel
theorem dX7_init_34 : decode cX7_init 34 = .ok (.dup, 1) := by decide +kernel
theorem dX7_init_35 : decode cX7_init 35 = .ok (.invokespecial 27, 3) := by decide +kernel
theorem dX7_init_38 : decode cX7_init 38 = .ok (.putfield 28, 3) := by decide +kernel
theorem dX7_init_41 : decode cX7_init 41 = .ok (.aload_n 0, 1) := by decide +kernel
theorem dX7_init_42 : decode cX7_init 42 = .ok (.new 32, 3) := by decide +kernel
theorem dX7_init_45 : decode cX7_init 45 = .ok (.dup, 1) := by decide +kernel
theorem dX7_init_46 : decode cX7_init 46 = .ok (.invokespecial 34, 3) := by decide +kernel
theorem dX7_init_49 : decode cX7_init 49 = .ok (.putfield 35, 3) := by decide +kernel
theorem dX7_init_52 : decode cX7_init 52 = .ok (.aload_n 0, 1) := by decide +kernel
theorem dX7_init_53 : decode cX7_init 53 = .ok (.new 39, 3) := by decide +kernel
theorem dX7_init_56 : decode cX7_init 56 = .ok (.dup, 1) := by decide +kernel
theorem dX7_init_57 : decode cX7_init 57 = .ok (.aload_n 0, 1) := by decide +kernel
theorem dX7_init_58 : decode cX7_init 58 = .ok (.getfield 28, 3) := by decide +kernel
theorem dX7_init_61 : decode cX7_init 61 = .ok (.aload_n 0, 1) := by decide +kernel
theorem dX7_init_62 : decode cX7_init 62 = .ok (.getfield 35, 3) := by decide +kernel
theorem dX7_init_65 : decode cX7_init 65 = .ok (.invokespecial 41, 3) := by decide +kernel
theorem dX7_init_68 : decode cX7_init 68 = .ok (.putfield 44, 3) := by decide +kernel
theorem dX7_init_71 : decode cX7_init 71 = .ok (.aload_n 0, 1) := by decide +kernel
theorem dX7_init_72 : decode cX7_init 72 = .ok (.new 32, 3) := by decide +kernel
theorem dX7_init_75 : decode cX7_init 75 = .ok (.dup, 1) := by decide +kernel
theorem dX7_init_76 : decode cX7_init 76 = .ok (.invokespecial 34, 3) := by decide +kernel
theorem dX7_init_79 : decode cX7_init 79 = .ok (.putfield 48, 3) := by decide +kernel
theorem dX7_init_82 : decode cX7_init 82 = .ok (.aload_n 0, 1) := by decide +kernel
theorem dX7_init_83 : decode cX7_init 83 = .ok (.new 39, 3) := by decide +kernel
theorem dX7_init_86 : decode cX7_init 86 = .ok (.dup, 1) := by decide +kernel
theorem dX7_init_87 : decode cX7_init 87 = .ok (.aload_n 0, 1) := by decide +kernel
theorem dX7_init_88 : decode cX7_init 88 = .ok (.getfield 28, 3) := by decide +kernel
theorem dX7_init_91 : decode cX7_init 91 = .ok (.aload_n 0, 1) := by decide +kernel
theorem dX7_init_92 : decode cX7_init 92 = .ok (.getfield 48, 3) := by decide +kernel
theorem dX7_init_95 : decode cX7_init 95 = .ok (.invokespecial 41, 3) := by decide +kernel
theorem dX7_init_98 : decode cX7_init 98 = .ok (.putfield 51, 3) := by decide +kernel
theorem dX7_init_101 : decode cX7_init 101 = .ok (.aload_n 0, 1) := by decide +kernel
theorem dX7_init_102 : decode cX7_init 102 = .ok (.new 32, 3) := by decide +kernel
theorem dX7_init_105 : decode cX7_init 105 = .ok (.dup, 1) := by decide +kernel
theorem dX7_init_106 : decode cX7_init 106 = .ok (.invokespecial 34, 3) := by decide +kernel
theorem dX7_init_109 : decode cX7_init 109 = .ok (.putfield 54, 3) := by decide +kernel
theorem dX7_init_112 : decode cX7_init 112 = .ok (.aload_n 0, 1) := by decide +kernel
theorem dX7_init_113 : decode cX7_init 113 = .ok (.new 57, 3) := by decide +kernel
theorem dX7_init_116 : decode cX7_init 116 = .ok (.dup, 1) := by decide +kernel
theorem dX7_init_117 : decode cX7_init 117 = .ok (.invokespecial 59, 3) := by decide +kernel
theorem dX7_init_120 : decode cX7_init 120 = .ok (.putfield 60, 3) := by decide +kernel
theorem dX7_init_123 : decode cX7_init 123 = .ok (.aload_n 0, 1) := by decide +kernel
theorem dX7_init_124 : decode cX7_init 124 = .ok (.iconst 3, 1) := by decide +kernel
theorem dX7_init_125 : decode cX7_init 125 = .ok (.anewarray 64, 3) := by decide +kernel
theorem dX7_init_128 : decode cX7_init 128 = .ok (.putfield 66, 3) := by decide +kernel
theorem dX7_init_131 : decode cX7_init 131 = .ok (.iconst 0, 1) := by decide +kernel
theorem dX7_init_132 : decode cX7_init 132 = .ok (.istore_n 1, 1) := by decide +kernel
theorem dX7_init_133 : decode cX7_init 133 = .ok (.iload_n 1, 1) := by decide +kernel
theorem dX7_init_134 : decode cX7_init 134 = .ok (.iconst 3, 1) := by decide +kernel
theorem dX7_init_135 : decode cX7_init 135 = .ok (.if_icmp .ge 22, 3) := by decide +kernel
theorem dX7_init_138 : decode cX7_init 138 = .ok (.aload_n 0, 1) := by decide +kernel
theorem dX7_init_139 : decode cX7_init 139 = .ok (.getfield 66, 3) := by decide +kernel
theorem dX7_init_142 : decode cX7_init 142 = .ok (.iload_n 1, 1) := by decide +kernel
theorem dX7_init_143 : decode cX7_init 143 = .ok (.new 64, 3) := by decide +kernel
theorem dX7_init_146 : decode cX7_init 146 = .ok (.dup, 1) := by decide +kernel
theorem dX7_init_147 : decode cX7_init 147 = .ok (.invokespecial 70, 3) := by decide +kernel
theorem dX7_init_150 : decode cX7_init 150 = .ok (.aastore, 1) := by decide +kernel
theorem dX7_init_151 : decode cX7_init 151 = .ok (.iinc 1 1, 3) := by decide +kernel
theorem dX7_init_154 : decode cX7_init 154 = .ok (.goto (-21), 3) := by decide +kernel
theorem dX7_init_157 : decode cX7_init 157 = .ok (.aload_n 0, 1) := by decide +kernel
theorem dX7_init_158 : decode cX7_init 158 = .ok (.iconst 0, 1) := by decide +kernel
theorem dX7_init_159 : decode cX7_init 159 = .ok (.putfield 71, 3) := by decide +kernel
theorem dX7_init_162 : decode cX7_init 162 = .ok (.aload_n 0, 1) := by decide +kernel
theorem dX7_init_163 : decode cX7_init 163 = .ok (.iconst (-1), 1) := by decide +kernel
theorem dX7_init_164 : decode cX7_init 164 = .ok (.putfield 75, 3) := by decide +kernel
theorem dX7_init_167 : decode cX7_init 167 = .ok (.return_, 1) := by decide +kernel
theorem dX7_type_0 : decode cX7_type 0 = .ok (.lload_n 1, 1) := by decide +kernel
theorem dX7_type_1 : decode cX7_type 1 = .ok (.invokestatic 78, 3) := by decide +kernel
theorem dX7_type_4 : decode cX7_type 4 = .ok (.istore_n 3, 1) := by decide +kernel
theorem dX7_type_5 : decode cX7_type 5 = .ok (.aload_n 0, 1) := by decide +kernel
theorem dX7_type_6 : decode cX7_type 6 = .ok (.getfield 10, 3) := by decide +kernel
theorem dX7_type_9 : decode cX7_type 9 = .ok (.getfield 82, 3) := by decide +kernel
theorem dX7_type_12 : decode cX7_type 12 = .ok (.iload_n 3, 1) := by decide +kernel
theorem dX7_type_13 : decode cX7_type 13 = .ok (.iadd, 1) := by decide +kernel
theorem dX7_type_14 : decode cX7_type 14 = .ok (.sipush 400, 3) := by decide +kernel
theorem dX7_type_17 : decode cX7_type 17 = .ok (.if_icmp .le 5, 3) := by decide +kernel
theorem dX7_type_20 : decode cX7_type 20 = .ok (.iconst (-1), 1) := by decide +kernel
theorem dX7_type_21 : decode cX7_type 21 = .ok (.ireturn, 1) := by decide +kernel
theorem dX7_type_22 : decode cX7_type 22 = .ok (.aload_n 0, 1) := by decide +kernel
theorem dX7_type_23 : decode cX7_type 23 = .ok (.getfield 10, 3) := by decide +kernel
theorem dX7_type_26 : decode cX7_type 26 = .ok (.lload_n 1, 1) := by decide +kernel
theorem dX7_type_27 : decode cX7_type 27 = .ok (.iload_n 3, 1) := by decide +kernel
theorem dX7_type_28 : decode cX7_type 28 = .ok (.invokevirtual 85, 3) := by decide +kernel
theorem dX7_type_31 : decode cX7_type 31 = .ok (.aload_n 0, 1) := by decide +kernel
theorem dX7_type_32 : decode cX7_type 32 = .ok (.getfield 10, 3) := by decide +kernel
theorem dX7_type_35 : decode cX7_type 35 = .ok (.getfield 82, 3) := by decide +kernel
theorem dX7_type_38 : decode cX7_type 38 = .ok (.ireturn, 1) := by decide +kernel
theorem dX7_read_0 : decode cX7_read 0 = .ok (.aload_n 0, 1) := by decide +kernel
theorem dX7_read_1 : decode cX7_read 1 = .ok (.getfield 21, 3) := by decide +kernel
theorem dX7_read_4 : decode cX7_read 4 = .ok (.invokevirtual 89, 3) := by decide +kernel
theorem dX7_read_7 : decode cX7_read 7 = .ok (.aload_n 0, 1) := by decide +kernel
theorem dX7_read_8 : decode cX7_read 8 = .ok (.getfield 10, 3) := by decide +kernel
theorem dX7_read_11 : decode cX7_read 11 = .ok (.iconst 0, 1) := by decide +kernel
theorem dX7_read_12 : decode cX7_read 12 = .ok (.putfield 82, 3) := by decide +kernel
theorem dX7_read_15 : decode cX7_read 15 = .ok (.aload_n 0, 1) := by decide +kernel
theorem dX7_read_16 : decode cX7_read 16 = .ok (.aload_n 0, 1) := by decide +kernel
theorem dX7_read_17 : decode cX7_read 17 = .ok (.getfield 21, 3) := by decide +kernel
theorem dX7_read_20 : decode cX7_read 20 = .ok (.getfield 92, 3) := by decide +kernel
theorem dX7_read_23 : decode cX7_read 23 = .ok (.putfield 71, 3) := by decide +kernel
theorem dX7_read_26 : decode cX7_read 26 = .ok (.aload_n 0, 1) := by decide +kernel
theorem dX7_read_27 : decode cX7_read 27 = .ok (.aload_n 0, 1) := by decide +kernel
theorem dX7_read_28 : decode cX7_read 28 = .ok (.getfield 21, 3) := by decide +kernel
theorem dX7_read_31 : decode cX7_read 31 = .ok (.getfield 95, 3) := by decide +kernel
theorem dX7_read_34 : decode cX7_read 34 = .ok (.putfield 75, 3) := by decide +kernel
theorem dX7_read_37 : decode cX7_read 37 = .ok (.aload_n 0, 1) := by decide +kernel
theorem dX7_read_38 : decode cX7_read 38 = .ok (.getfield 71, 3) := by decide +kernel
theorem dX7_read_41 : decode cX7_read 41 = .ok (.ifCond .eq 5, 3) := by decide +kernel
theorem dX7_read_44 : decode cX7_read 44 = .ok (.iconst (-1), 1) := by decide +kernel
theorem dX7_read_45 : decode cX7_read 45 = .ok (.ireturn, 1) := by decide +kernel
theorem dX7_read_46 : decode cX7_read 46 = .ok (.aload_n 0, 1) := by decide +kernel
theorem dX7_read_47 : decode cX7_read 47 = .ok (.getfield 28, 3) := by decide +kernel
theorem dX7_read_50 : decode cX7_read 50 = .ok (.aload_n 0, 1) := by decide +kernel
theorem dX7_read_51 : decode cX7_read 51 = .ok (.getfield 21, 3) := by decide +kernel
theorem dX7_read_54 : decode cX7_read 54 = .ok (.getfield 98, 3) := by decide +kernel
theorem dX7_read_57 : decode cX7_read 57 = .ok (.invokevirtual 101, 3) := by decide +kernel
theorem dX7_read_60 : decode cX7_read 60 = .ok (.aload_n 0, 1) := by decide +kernel
theorem dX7_read_61 : decode cX7_read 61 = .ok (.getfield 35, 3) := by decide +kernel
theorem dX7_read_64 : decode cX7_read 64 = .ok (.aload_n 0, 1) := by decide +kernel
theorem dX7_read_65 : decode cX7_read 65 = .ok (.getfield 28, 3) := by decide +kernel
theorem dX7_read_68 : decode cX7_read 68 = .ok (.invokevirtual 105, 3) := by decide +kernel
theorem dX7_read_71 : decode cX7_read 71 = .ok (.aload_n 0, 1) := by decide +kernel
theorem dX7_read_72 : decode cX7_read 72 = .ok (.getfield 60, 3) := by decide +kernel
theorem dX7_read_75 : decode cX7_read 75 = .ok (.iconst 0, 1) := by decide +kernel
theorem dX7_read_76 : decode cX7_read 76 = .ok (.putfield 108, 3) := by decide +kernel
theorem dX7_read_79 : decode cX7_read 79 = .ok (.aload_n 0, 1) := by decide +kernel
theorem dX7_read_80 : decode cX7_read 80 = .ok (.getfield 44, 3) := by decide +kernel
theorem dX7_read_83 : decode cX7_read 83 = .ok (.aload_n 0, 1) := by decide +kernel
theorem dX7_read_84 : decode cX7_read 84 = .ok (.getfield 28, 3) := by decide +kernel
theorem dX7_read_87 : decode cX7_read 87 = .ok (.getfield 111, 3) := by decide +kernel
theorem dX7_read_90 : decode cX7_read 90 = .ok (.invokevirtual 114, 3) := by decide +kernel
theorem dX7_read_93 : decode cX7_read 93 = .ok (.pop, 1) := by decide +kernel
theorem dX7_read_94 : decode cX7_read 94 = .ok (.aload_n 0, 1) := by decide +kernel
theorem dX7_read_95 : decode cX7_read 95 = .ok (.getfield 28, 3) := by decide +kernel
theorem dX7_read_98 : decode cX7_read 98 = .ok (.getfield 118, 3) := by decide +kernel
theorem dX7_read_101 : decode cX7_read 101 = .ok (.ireturn, 1) := by decide +kernel
theorem dX7_fault_0 : decode cX7_fault 0 = .ok (.iload_n 1, 1) := by decide +kernel
theorem dX7_fault_1 : decode cX7_fault 1 = .ok (.ifCond .eq 10, 3) := by decide +kernel
theorem dX7_fault_4 : decode cX7_fault 4 = .ok (.aload_n 0, 1) := by decide +kernel
theorem dX7_fault_5 : decode cX7_fault 5 = .ok (.getfield 75, 3) := by decide +kernel
theorem dX7_fault_8 : decode cX7_fault 8 = .ok (.goto 7, 3) := by decide +kernel
theorem dX7_fault_11 : decode cX7_fault 11 = .ok (.aload_n 0, 1) := by decide +kernel
theorem dX7_fault_12 : decode cX7_fault 12 = .ok (.getfield 71, 3) := by decide +kernel
theorem dX7_fault_15 : decode cX7_fault 15 = .ok (.ireturn, 1) := by decide +kernel
theorem dX7_place_0 : decode cX7_place 0 = .ok (.aload_n 0, 1) := by decide +kernel
theorem dX7_place_1 : decode cX7_place 1 = .ok (.iload_n 1, 1) := by decide +kernel
theorem dX7_place_2 : decode cX7_place 2 = .ok (.iload_n 2, 1) := by decide +kernel
theorem dX7_place_3 : decode cX7_place 3 = .ok (.iload_n 3, 1) := by decide +kernel
theorem dX7_place_4 : decode cX7_place 4 = .ok (.invokevirtual 121, 3) := by decide +kernel
theorem dX7_place_7 : decode cX7_place 7 = .ok (.istore 4, 2) := by decide +kernel
theorem dX7_place_9 : decode cX7_place 9 = .ok (.iload 4, 2) := by decide +kernel
theorem dX7_place_11 : decode cX7_place 11 = .ok (.ifCond .eq 6, 3) := by decide +kernel
theorem dX7_place_14 : decode cX7_place 14 = .ok (.iload 4, 2) := by decide +kernel
theorem dX7_place_16 : decode cX7_place 16 = .ok (.ireturn, 1) := by decide +kernel
theorem dX7_place_17 : decode cX7_place 17 = .ok (.aload_n 0, 1) := by decide +kernel
theorem dX7_place_18 : decode cX7_place 18 = .ok (.getfield 60, 3) := by decide +kernel
theorem dX7_place_21 : decode cX7_place 21 = .ok (.aload_n 0, 1) := by decide +kernel
theorem dX7_place_22 : decode cX7_place 22 = .ok (.getfield 35, 3) := by decide +kernel
theorem dX7_place_25 : decode cX7_place 25 = .ok (.invokevirtual 125, 3) := by decide +kernel
theorem dX7_place_28 : decode cX7_place 28 = .ok (.aload_n 0, 1) := by decide +kernel
theorem dX7_place_29 : decode cX7_place 29 = .ok (.getfield 35, 3) := by decide +kernel
theorem dX7_place_32 : decode cX7_place 32 = .ok (.iload_n 1, 1) := by decide +kernel
theorem dX7_place_33 : decode cX7_place 33 = .ok (.iload_n 2, 1) := by decide +kernel
theorem dX7_place_34 : decode cX7_place 34 = .ok (.iload_n 3, 1) := by decide +kernel
theorem dX7_place_35 : decode cX7_place 35 = .ok (.invokevirtual 129, 3) := by decide +kernel
theorem dX7_place_38 : decode cX7_place 38 = .ok (.aload_n 0, 1) := by decide +kernel
theorem dX7_place_39 : decode cX7_place 39 = .ok (.getfield 44, 3) := by decide +kernel
theorem dX7_place_42 : decode cX7_place 42 = .ok (.aload_n 0, 1) := by decide +kernel
theorem dX7_place_43 : decode cX7_place 43 = .ok (.getfield 28, 3) := by decide +kernel
theorem dX7_place_46 : decode cX7_place 46 = .ok (.getfield 111, 3) := by decide +kernel
theorem dX7_place_49 : decode cX7_place 49 = .ok (.invokevirtual 114, 3) := by decide +kernel
theorem dX7_place_52 : decode cX7_place 52 = .ok (.ireturn, 1) := by decide +kernel
theorem dX7_swap_0 : decode cX7_swap 0 = .ok (.aload_n 0, 1) := by decide +kernel
theorem dX7_swap_1 : decode cX7_swap 1 = .ok (.iload_n 1, 1) := by decide +kernel
theorem dX7_swap_2 : decode cX7_swap 2 = .ok (.iload_n 2, 1) := by decide +kernel
theorem dX7_swap_3 : decode cX7_swap 3 = .ok (.invokevirtual 133, 3) := by decide +kernel
theorem dX7_swap_6 : decode cX7_swap 6 = .ok (.istore_n 3, 1) := by decide +kernel
theorem dX7_swap_7 : decode cX7_swap 7 = .ok (.iload_n 3, 1) := by decide +kernel
theorem dX7_swap_8 : decode cX7_swap 8 = .ok (.ifCond .eq 5, 3) := by decide +kernel
theorem dX7_swap_11 : decode cX7_swap 11 = .ok (.iload_n 3, 1) := by decide +kernel
theorem dX7_swap_12 : decode cX7_swap 12 = .ok (.ireturn, 1) := by decide +kernel
theorem dX7_swap_13 : decode cX7_swap 13 = .ok (.aload_n 0, 1) := by decide +kernel
theorem dX7_swap_14 : decode cX7_swap 14 = .ok (.getfield 60, 3) := by decide +kernel
theorem dX7_swap_17 : decode cX7_swap 17 = .ok (.aload_n 0, 1) := by decide +kernel
theorem dX7_swap_18 : decode cX7_swap 18 = .ok (.getfield 35, 3) := by decide +kernel
theorem dX7_swap_21 : decode cX7_swap 21 = .ok (.invokevirtual 125, 3) := by decide +kernel
theorem dX7_swap_24 : decode cX7_swap 24 = .ok (.aload_n 0, 1) := by decide +kernel
theorem dX7_swap_25 : decode cX7_swap 25 = .ok (.getfield 35, 3) := by decide +kernel
theorem dX7_swap_28 : decode cX7_swap 28 = .ok (.iload_n 1, 1) := by decide +kernel
theorem dX7_swap_29 : decode cX7_swap 29 = .ok (.iload_n 2, 1) := by decide +kernel
theorem dX7_swap_30 : decode cX7_swap 30 = .ok (.invokevirtual 137, 3) := by decide +kernel
theorem dX7_swap_33 : decode cX7_swap 33 = .ok (.aload_n 0, 1) := by decide +kernel
theorem dX7_swap_34 : decode cX7_swap 34 = .ok (.getfield 44, 3) := by decide +kernel
theorem dX7_swap_37 : decode cX7_swap 37 = .ok (.aload_n 0, 1) := by decide +kernel
theorem dX7_swap_38 : decode cX7_swap 38 = .ok (.getfield 28, 3) := by decide +kernel
theorem dX7_swap_41 : decode cX7_swap 41 = .ok (.getfield 111, 3) := by decide +kernel
theorem dX7_swap_44 : decode cX7_swap 44 = .ok (.invokevirtual 114, 3) := by decide +kernel
theorem dX7_swap_47 : decode cX7_swap 47 = .ok (.ireturn, 1) := by decide +kernel
theorem dX7_late_0 : decode cX7_late 0 = .ok (.aload_n 0, 1) := by decide +kernel
theorem dX7_late_1 : decode cX7_late 1 = .ok (.iload_n 1, 1) := by decide +kernel
theorem dX7_late_2 : decode cX7_late 2 = .ok (.iload_n 2, 1) := by decide +kernel
theorem dX7_late_3 : decode cX7_late 3 = .ok (.invokevirtual 141, 3) := by decide +kernel
theorem dX7_late_6 : decode cX7_late 6 = .ok (.ifCond .ne 5, 3) := by decide +kernel
theorem dX7_late_9 : decode cX7_late 9 = .ok (.iconst (-1), 1) := by decide +kernel
theorem dX7_late_10 : decode cX7_late 10 = .ok (.ireturn, 1) := by decide +kernel
theorem dX7_late_11 : decode cX7_late 11 = .ok (.aload_n 0, 1) := by decide +kernel
theorem dX7_late_12 : decode cX7_late 12 = .ok (.iload_n 1, 1) := by decide +kernel
theorem dX7_late_13 : decode cX7_late 13 = .ok (.invokevirtual 145, 3) := by decide +kernel
theorem dX7_late_16 : decode cX7_late 16 = .ok (.ifCond .eq 6, 3) := by decide +kernel
theorem dX7_late_19 : decode cX7_late 19 = .ok (.bipush (-2), 2) := by decide +kernel
theorem dX7_late_21 : decode cX7_late 21 = .ok (.ireturn, 1) := by decide +kernel
theorem dX7_late_22 : decode cX7_late 22 = .ok (.aload_n 0, 1) := by decide +kernel
theorem dX7_late_23 : decode cX7_late 23 = .ok (.getfield 60, 3) := by decide +kernel
theorem dX7_late_26 : decode cX7_late 26 = .ok (.aload_n 0, 1) := by decide +kernel
theorem dX7_late_27 : decode cX7_late 27 = .ok (.getfield 35, 3) := by decide +kernel
theorem dX7_late_30 : decode cX7_late 30 = .ok (.invokevirtual 125, 3) := by decide +kernel
theorem dX7_late_33 : decode cX7_late 33 = .ok (.aload_n 0, 1) := by decide +kernel
theorem dX7_late_34 : decode cX7_late 34 = .ok (.getfield 35, 3) := by decide +kernel
theorem dX7_late_37 : decode cX7_late 37 = .ok (.getfield 149, 3) := by decide +kernel
theorem dX7_late_40 : decode cX7_late 40 = .ok (.iload_n 1, 1) := by decide +kernel
theorem dX7_late_41 : decode cX7_late 41 = .ok (.dup2, 1) := by decide +kernel
theorem dX7_late_42 : decode cX7_late 42 = .ok (.iaload, 1) := by decide +kernel
theorem dX7_late_43 : decode cX7_late 43 = .ok (.iload_n 2, 1) := by decide +kernel
theorem dX7_late_44 : decode cX7_late 44 = .ok (.iadd, 1) := by decide +kernel
theorem dX7_late_45 : decode cX7_late 45 = .ok (.iastore, 1) := by decide +kernel
theorem dX7_late_46 : decode cX7_late 46 = .ok (.aload_n 0, 1) := by decide +kernel
theorem dX7_late_47 : decode cX7_late 47 = .ok (.getfield 44, 3) := by decide +kernel
theorem dX7_late_50 : decode cX7_late 50 = .ok (.aload_n 0, 1) := by decide +kernel
theorem dX7_late_51 : decode cX7_late 51 = .ok (.getfield 28, 3) := by decide +kernel
theorem dX7_late_54 : decode cX7_late 54 = .ok (.getfield 111, 3) := by decide +kernel
theorem dX7_late_57 : decode cX7_late 57 = .ok (.invokevirtual 114, 3) := by decide +kernel
theorem dX7_late_60 : decode cX7_late 60 = .ok (.pop, 1) := by decide +kernel
theorem dX7_late_61 : decode cX7_late 61 = .ok (.aload_n 0, 1) := by decide +kernel
theorem dX7_late_62 : decode cX7_late 62 = .ok (.getfield 35, 3) := by decide +kernel
theorem dX7_late_65 : decode cX7_late 65 = .ok (.getfield 149, 3) := by decide +kernel
theorem dX7_late_68 : decode cX7_late 68 = .ok (.iload_n 1, 1) := by decide +kernel
theorem dX7_late_69 : decode cX7_late 69 = .ok (.iaload, 1) := by decide +kernel
theorem dX7_late_70 : decode cX7_late 70 = .ok (.ireturn, 1) := by decide +kernel
theorem dX7_now_0 : decode cX7_now 0 = .ok (.iload_n 1, 1) := by decide +kernel
theorem dX7_now_1 : decode cX7_now 1 = .ok (.aload_n 0, 1) := by decide +kernel
theorem dX7_now_2 : decode cX7_now 2 = .ok (.getfield 35, 3) := by decide +kernel
theorem dX7_now_5 : decode cX7_now 5 = .ok (.getfield 153, 3) := by decide +kernel
theorem dX7_now_8 : decode cX7_now 8 = .ok (.if_icmp .le 10, 3) := by decide +kernel
theorem dX7_now_11 : decode cX7_now 11 = .ok (.iload_n 1, 1) := by decide +kernel
theorem dX7_now_12 : decode cX7_now 12 = .ok (.sipush 200, 3) := by decide +kernel
theorem dX7_now_15 : decode cX7_now 15 = .ok (.if_icmp .lt 5, 3) := by decide +kernel
theorem dX7_now_18 : decode cX7_now 18 = .ok (.iconst 0, 1) := by decide +kernel
theorem dX7_now_19 : decode cX7_now 19 = .ok (.ireturn, 1) := by decide +kernel
theorem dX7_now_20 : decode cX7_now 20 = .ok (.aload_n 0, 1) := by decide +kernel
theorem dX7_now_21 : decode cX7_now 21 = .ok (.getfield 60, 3) := by decide +kernel
theorem dX7_now_24 : decode cX7_now 24 = .ok (.aload_n 0, 1) := by decide +kernel
theorem dX7_now_25 : decode cX7_now 25 = .ok (.getfield 35, 3) := by decide +kernel
theorem dX7_now_28 : decode cX7_now 28 = .ok (.invokevirtual 125, 3) := by decide +kernel
theorem dX7_now_31 : decode cX7_now 31 = .ok (.aload_n 0, 1) := by decide +kernel
theorem dX7_now_32 : decode cX7_now 32 = .ok (.getfield 35, 3) := by decide +kernel
theorem dX7_now_35 : decode cX7_now 35 = .ok (.iload_n 1, 1) := by decide +kernel
theorem dX7_now_36 : decode cX7_now 36 = .ok (.putfield 153, 3) := by decide +kernel
theorem dX7_now_39 : decode cX7_now 39 = .ok (.iconst 1, 1) := by decide +kernel
theorem dX7_now_40 : decode cX7_now 40 = .ok (.ireturn, 1) := by decide +kernel
theorem dX7_step_0 : decode cX7_step 0 = .ok (.aload_n 0, 1) := by decide +kernel
theorem dX7_step_1 : decode cX7_step 1 = .ok (.invokevirtual 156, 3) := by decide +kernel
theorem dX7_step_4 : decode cX7_step 4 = .ok (.ifCond .ne 5, 3) := by decide +kernel
theorem dX7_step_7 : decode cX7_step 7 = .ok (.iconst (-1), 1) := by decide +kernel
theorem dX7_step_8 : decode cX7_step 8 = .ok (.ireturn, 1) := by decide +kernel
theorem dX7_step_9 : decode cX7_step 9 = .ok (.aload_n 0, 1) := by decide +kernel
theorem dX7_step_10 : decode cX7_step 10 = .ok (.getfield 60, 3) := by decide +kernel
theorem dX7_step_13 : decode cX7_step 13 = .ok (.aload_n 0, 1) := by decide +kernel
theorem dX7_step_14 : decode cX7_step 14 = .ok (.getfield 35, 3) := by decide +kernel
theorem dX7_step_17 : decode cX7_step 17 = .ok (.invokevirtual 125, 3) := by decide +kernel
theorem dX7_step_20 : decode cX7_step 20 = .ok (.aload_n 0, 1) := by decide +kernel
theorem dX7_step_21 : decode cX7_step 21 = .ok (.invokevirtual 160, 3) := by decide +kernel
theorem dX7_step_24 : decode cX7_step 24 = .ok (.ireturn, 1) := by decide +kernel
theorem dX7_repair_0 : decode cX7_repair 0 = .ok (.iconst 0, 1) := by decide +kernel
theorem dX7_repair_1 : decode cX7_repair 1 = .ok (.istore_n 1, 1) := by decide +kernel
theorem dX7_repair_2 : decode cX7_repair 2 = .ok (.iload_n 1, 1) := by decide +kernel
theorem dX7_repair_3 : decode cX7_repair 3 = .ok (.iconst 5, 1) := by decide +kernel
theorem dX7_repair_4 : decode cX7_repair 4 = .ok (.if_icmp .ge 36, 3) := by decide +kernel
theorem dX7_repair_7 : decode cX7_repair 7 = .ok (.aload_n 0, 1) := by decide +kernel
theorem dX7_repair_8 : decode cX7_repair 8 = .ok (.invokevirtual 156, 3) := by decide +kernel
theorem dX7_repair_11 : decode cX7_repair 11 = .ok (.ifCond .eq 29, 3) := by decide +kernel
theorem dX7_repair_14 : decode cX7_repair 14 = .ok (.iload_n 1, 1) := by decide +kernel
theorem dX7_repair_15 : decode cX7_repair 15 = .ok (.ifCond .ne 14, 3) := by decide +kernel
theorem dX7_repair_18 : decode cX7_repair 18 = .ok (.aload_n 0, 1) := by decide +kernel
theorem dX7_repair_19 : decode cX7_repair 19 = .ok (.getfield 60, 3) := by decide +kernel
theorem dX7_repair_22 : decode cX7_repair 22 = .ok (.aload_n 0, 1) := by decide +kernel
theorem dX7_repair_23 : decode cX7_repair 23 = .ok (.getfield 35, 3) := by decide +kernel
theorem dX7_repair_26 : decode cX7_repair 26 = .ok (.invokevirtual 125, 3) := by decide +kernel
theorem dX7_repair_29 : decode cX7_repair 29 = .ok (.aload_n 0, 1) := by decide +kernel
theorem dX7_repair_30 : decode cX7_repair 30 = .ok (.invokevirtual 160, 3) := by decide +kernel
theorem dX7_repair_33 : decode cX7_repair 33 = .ok (.pop, 1) := by decide +kernel
theorem dX7_repair_34 : decode cX7_repair 34 = .ok (.iinc 1 1, 3) := by decide +kernel
theorem dX7_repair_37 : decode cX7_repair 37 = .ok (.goto (-35), 3) := by decide +kernel
theorem dX7_repair_40 : decode cX7_repair 40 = .ok (.iload_n 1, 1) := by decide +kernel
theorem dX7_repair_41 : decode cX7_repair 41 = .ok (.ifCond .ne 7, 3) := by decide +kernel
theorem dX7_repair_44 : decode cX7_repair 44 = .ok (.iconst (-1), 1) := by decide +kernel
theorem dX7_repair_45 : decode cX7_repair 45 = .ok (.goto 4, 3) := by decide +kernel
theorem dX7_repair_48 : decode cX7_repair 48 = .ok (.iload_n 1, 1) := by decide +kernel
theorem dX7_repair_49 : decode cX7_repair 49 = .ok (.ireturn, 1) := by decide +kernel
theorem dX7_undo_0 : decode cX7_undo 0 = .ok (.aload_n 0, 1) := by decide +kernel
theorem dX7_undo_1 : decode cX7_undo 1 = .ok (.getfield 60, 3) := by decide +kernel
theorem dX7_undo_4 : decode cX7_undo 4 = .ok (.aload_n 0, 1) := by decide +kernel
theorem dX7_undo_5 : decode cX7_undo 5 = .ok (.getfield 35, 3) := by decide +kernel
theorem dX7_undo_8 : decode cX7_undo 8 = .ok (.invokevirtual 164, 3) := by decide +kernel
theorem dX7_undo_11 : decode cX7_undo 11 = .ok (.ifCond .ne 5, 3) := by decide +kernel
theorem dX7_undo_14 : decode cX7_undo 14 = .ok (.iconst (-1), 1) := by decide +kernel
theorem dX7_undo_15 : decode cX7_undo 15 = .ok (.ireturn, 1) := by decide +kernel
theorem dX7_undo_16 : decode cX7_undo 16 = .ok (.aload_n 0, 1) := by decide +kernel
theorem dX7_undo_17 : decode cX7_undo 17 = .ok (.getfield 44, 3) := by decide +kernel
theorem dX7_undo_20 : decode cX7_undo 20 = .ok (.aload_n 0, 1) := by decide +kernel
theorem dX7_undo_21 : decode cX7_undo 21 = .ok (.getfield 28, 3) := by decide +kernel
theorem dX7_undo_24 : decode cX7_undo 24 = .ok (.getfield 111, 3) := by decide +kernel
theorem dX7_undo_27 : decode cX7_undo 27 = .ok (.invokevirtual 114, 3) := by decide +kernel
theorem dX7_undo_30 : decode cX7_undo 30 = .ok (.pop, 1) := by decide +kernel
theorem dX7_undo_31 : decode cX7_undo 31 = .ok (.aload_n 0, 1) := by decide +kernel
theorem dX7_undo_32 : decode cX7_undo 32 = .ok (.getfield 60, 3) := by decide +kernel
theorem dX7_undo_35 : decode cX7_undo 35 = .ok (.getfield 108, 3) := by decide +kernel
theorem dX7_undo_38 : decode cX7_undo 38 = .ok (.ireturn, 1) := by decide +kernel
theorem dX7_count_0 : decode cX7_count 0 = .ok (.iload_n 1, 1) := by decide +kernel
theorem dX7_count_1 : decode cX7_count 1 = .ok (.tableswitch 240 0 18 #[91, 99, 107, 115, 123, 131, 139, 147, 155, 163, 171, 179, 187, 195, 203, 211, 216, 224, 232], 91) := by decide +kernel
theorem dX7_count_92 : decode cX7_count 92 = .ok (.aload_n 0, 1) := by decide +kernel
theorem dX7_count_93 : decode cX7_count 93 = .ok (.getfield 28, 3) := by decide +kernel
theorem dX7_count_96 : decode cX7_count 96 = .ok (.getfield 168, 3) := by decide +kernel
theorem dX7_count_99 : decode cX7_count 99 = .ok (.ireturn, 1) := by decide +kernel
theorem dX7_count_100 : decode cX7_count 100 = .ok (.aload_n 0, 1) := by decide +kernel
theorem dX7_count_101 : decode cX7_count 101 = .ok (.getfield 28, 3) := by decide +kernel
theorem dX7_count_104 : decode cX7_count 104 = .ok (.getfield 118, 3) := by decide +kernel
theorem dX7_count_107 : decode cX7_count 107 = .ok (.ireturn, 1) := by decide +kernel
theorem dX7_count_108 : decode cX7_count 108 = .ok (.aload_n 0, 1) := by decide +kernel
theorem dX7_count_109 : decode cX7_count 109 = .ok (.getfield 28, 3) := by decide +kernel
theorem dX7_count_112 : decode cX7_count 112 = .ok (.getfield 171, 3) := by decide +kernel
theorem dX7_count_115 : decode cX7_count 115 = .ok (.ireturn, 1) := by decide +kernel
theorem dX7_count_116 : decode cX7_count 116 = .ok (.aload_n 0, 1) := by decide +kernel
theorem dX7_count_117 : decode cX7_count 117 = .ok (.getfield 28, 3) := by decide +kernel
theorem dX7_count_120 : decode cX7_count 120 = .ok (.getfield 111, 3) := by decide +kernel
theorem dX7_count_123 : decode cX7_count 123 = .ok (.ireturn, 1) := by decide +kernel
theorem dX7_count_124 : decode cX7_count 124 = .ok (.aload_n 0, 1) := by decide +kernel
theorem dX7_count_125 : decode cX7_count 125 = .ok (.getfield 28, 3) := by decide +kernel
theorem dX7_count_128 : decode cX7_count 128 = .ok (.getfield 174, 3) := by decide +kernel
theorem dX7_count_131 : decode cX7_count 131 = .ok (.ireturn, 1) := by decide +kernel
theorem dX7_count_132 : decode cX7_count 132 = .ok (.aload_n 0, 1) := by decide +kernel
theorem dX7_count_133 : decode cX7_count 133 = .ok (.getfield 35, 3) := by decide +kernel
theorem dX7_count_136 : decode cX7_count 136 = .ok (.getfield 153, 3) := by decide +kernel
theorem dX7_count_139 : decode cX7_count 139 = .ok (.ireturn, 1) := by decide +kernel
theorem dX7_count_140 : decode cX7_count 140 = .ok (.aload_n 0, 1) := by decide +kernel
theorem dX7_count_141 : decode cX7_count 141 = .ok (.getfield 44, 3) := by decide +kernel
theorem dX7_count_144 : decode cX7_count 144 = .ok (.getfield 177, 3) := by decide +kernel
theorem dX7_count_147 : decode cX7_count 147 = .ok (.ireturn, 1) := by decide +kernel
theorem dX7_count_148 : decode cX7_count 148 = .ok (.aload_n 0, 1) := by decide +kernel
theorem dX7_count_149 : decode cX7_count 149 = .ok (.getfield 44, 3) := by decide +kernel
theorem dX7_count_152 : decode cX7_count 152 = .ok (.invokevirtual 180, 3) := by decide +kernel
theorem dX7_count_155 : decode cX7_count 155 = .ok (.ireturn, 1) := by decide +kernel
theorem dX7_count_156 : decode cX7_count 156 = .ok (.aload_n 0, 1) := by decide +kernel
theorem dX7_count_157 : decode cX7_count 157 = .ok (.getfield 44, 3) := by decide +kernel
theorem dX7_count_160 : decode cX7_count 160 = .ok (.invokevirtual 183, 3) := by decide +kernel
theorem dX7_count_163 : decode cX7_count 163 = .ok (.ireturn, 1) := by decide +kernel
theorem dX7_count_164 : decode cX7_count 164 = .ok (.aload_n 0, 1) := by decide +kernel
theorem dX7_count_165 : decode cX7_count 165 = .ok (.getfield 44, 3) := by decide +kernel
theorem dX7_count_168 : decode cX7_count 168 = .ok (.invokevirtual 186, 3) := by decide +kernel
theorem dX7_count_171 : decode cX7_count 171 = .ok (.ireturn, 1) := by decide +kernel
theorem dX7_count_172 : decode cX7_count 172 = .ok (.aload_n 0, 1) := by decide +kernel
theorem dX7_count_173 : decode cX7_count 173 = .ok (.getfield 44, 3) := by decide +kernel
theorem dX7_count_176 : decode cX7_count 176 = .ok (.invokevirtual 189, 3) := by decide +kernel
theorem dX7_count_179 : decode cX7_count 179 = .ok (.ireturn, 1) := by decide +kernel
theorem dX7_count_180 : decode cX7_count 180 = .ok (.aload_n 0, 1) := by decide +kernel
theorem dX7_count_181 : decode cX7_count 181 = .ok (.getfield 44, 3) := by decide +kernel
theorem dX7_count_184 : decode cX7_count 184 = .ok (.invokevirtual 192, 3) := by decide +kernel
theorem dX7_count_187 : decode cX7_count 187 = .ok (.ireturn, 1) := by decide +kernel
theorem dX7_count_188 : decode cX7_count 188 = .ok (.aload_n 0, 1) := by decide +kernel
theorem dX7_count_189 : decode cX7_count 189 = .ok (.getfield 44, 3) := by decide +kernel
theorem dX7_count_192 : decode cX7_count 192 = .ok (.invokevirtual 195, 3) := by decide +kernel
theorem dX7_count_195 : decode cX7_count 195 = .ok (.ireturn, 1) := by decide +kernel
theorem dX7_count_196 : decode cX7_count 196 = .ok (.aload_n 0, 1) := by decide +kernel
theorem dX7_count_197 : decode cX7_count 197 = .ok (.getfield 44, 3) := by decide +kernel
theorem dX7_count_200 : decode cX7_count 200 = .ok (.invokevirtual 198, 3) := by decide +kernel
theorem dX7_count_203 : decode cX7_count 203 = .ok (.ireturn, 1) := by decide +kernel
theorem dX7_count_204 : decode cX7_count 204 = .ok (.aload_n 0, 1) := by decide +kernel
theorem dX7_count_205 : decode cX7_count 205 = .ok (.getfield 44, 3) := by decide +kernel
theorem dX7_count_208 : decode cX7_count 208 = .ok (.invokevirtual 201, 3) := by decide +kernel
theorem dX7_count_211 : decode cX7_count 211 = .ok (.ireturn, 1) := by decide +kernel
theorem dX7_count_212 : decode cX7_count 212 = .ok (.aload_n 0, 1) := by decide +kernel
theorem dX7_count_213 : decode cX7_count 213 = .ok (.invokevirtual 204, 3) := by decide +kernel
theorem dX7_count_216 : decode cX7_count 216 = .ok (.ireturn, 1) := by decide +kernel
theorem dX7_count_217 : decode cX7_count 217 = .ok (.aload_n 0, 1) := by decide +kernel
theorem dX7_count_218 : decode cX7_count 218 = .ok (.getfield 60, 3) := by decide +kernel
theorem dX7_count_221 : decode cX7_count 221 = .ok (.getfield 108, 3) := by decide +kernel
theorem dX7_count_224 : decode cX7_count 224 = .ok (.ireturn, 1) := by decide +kernel
theorem dX7_count_225 : decode cX7_count 225 = .ok (.aload_n 0, 1) := by decide +kernel
theorem dX7_count_226 : decode cX7_count 226 = .ok (.getfield 10, 3) := by decide +kernel
theorem dX7_count_229 : decode cX7_count 229 = .ok (.getfield 82, 3) := by decide +kernel
theorem dX7_count_232 : decode cX7_count 232 = .ok (.ireturn, 1) := by decide +kernel
theorem dX7_count_233 : decode cX7_count 233 = .ok (.aload_n 0, 1) := by decide +kernel
theorem dX7_count_234 : decode cX7_count 234 = .ok (.getfield 44, 3) := by decide +kernel
theorem dX7_count_237 : decode cX7_count 237 = .ok (.invokevirtual 207, 3) := by decide +kernel
theorem dX7_count_240 : decode cX7_count 240 = .ok (.ireturn, 1) := by decide +kernel
theorem dX7_count_241 : decode cX7_count 241 = .ok (.iconst (-1), 1) := by decide +kernel
theorem dX7_count_242 : decode cX7_count 242 = .ok (.ireturn, 1) := by decide +kernel
theorem dX7_door_0 : decode cX7_door 0 = .ok (.aload_n 0, 1) := by decide +kernel
theorem dX7_door_1 : decode cX7_door 1 = .ok (.getfield 28, 3) := by decide +kernel
theorem dX7_door_4 : decode cX7_door 4 = .ok (.iload_n 1, 1) := by decide +kernel
theorem dX7_door_5 : decode cX7_door 5 = .ok (.invokevirtual 210, 3) := by decide +kernel
theorem dX7_door_8 : decode cX7_door 8 = .ok (.ifCond .ne 13, 3) := by decide +kernel
theorem dX7_door_11 : decode cX7_door 11 = .ok (.new 213, 3) := by decide +kernel
theorem dX7_door_14 : decode cX7_door 14 = .ok (.dup, 1) := by decide +kernel
theorem dX7_door_15 : decode cX7_door 15 = .ok (.ldc 215, 2) := by decide +kernel
theorem dX7_door_17 : decode cX7_door 17 = .ok (.invokespecial 217, 3) := by decide +kernel
theorem dX7_door_20 : decode cX7_door 20 = .ok (.athrow, 1) := by decide +kernel
theorem dX7_door_21 : decode cX7_door 21 = .ok (.iload_n 2, 1) := by decide +kernel
theorem dX7_door_22 : decode cX7_door 22 = .ok (.tableswitch 81 0 4 #[34, 44, 54, 63, 72], 34) := by decide +kernel
theorem dX7_door_56 : decode cX7_door 56 = .ok (.aload_n 0, 1) := by decide +kernel
theorem dX7_door_57 : decode cX7_door 57 = .ok (.getfield 28, 3) := by decide +kernel
theorem dX7_door_60 : decode cX7_door 60 = .ok (.getfield 220, 3) := by decide +kernel
theorem dX7_door_63 : decode cX7_door 63 = .ok (.iload_n 1, 1) := by decide +kernel
theorem dX7_door_64 : decode cX7_door 64 = .ok (.iaload, 1) := by decide +kernel
theorem dX7_door_65 : decode cX7_door 65 = .ok (.ireturn, 1) := by decide +kernel
theorem dX7_door_66 : decode cX7_door 66 = .ok (.aload_n 0, 1) := by decide +kernel
theorem dX7_door_67 : decode cX7_door 67 = .ok (.getfield 28, 3) := by decide +kernel
theorem dX7_door_70 : decode cX7_door 70 = .ok (.getfield 223, 3) := by decide +kernel
theorem dX7_door_73 : decode cX7_door 73 = .ok (.iload_n 1, 1) := by decide +kernel
theorem dX7_door_74 : decode cX7_door 74 = .ok (.iaload, 1) := by decide +kernel
theorem dX7_door_75 : decode cX7_door 75 = .ok (.ireturn, 1) := by decide +kernel
theorem dX7_door_76 : decode cX7_door 76 = .ok (.aload_n 0, 1) := by decide +kernel
theorem dX7_door_77 : decode cX7_door 77 = .ok (.getfield 35, 3) := by decide +kernel
theorem dX7_door_80 : decode cX7_door 80 = .ok (.iload_n 1, 1) := by decide +kernel
theorem dX7_door_81 : decode cX7_door 81 = .ok (.invokevirtual 226, 3) := by decide +kernel
theorem dX7_door_84 : decode cX7_door 84 = .ok (.ireturn, 1) := by decide +kernel
theorem dX7_door_85 : decode cX7_door 85 = .ok (.aload_n 0, 1) := by decide +kernel
theorem dX7_door_86 : decode cX7_door 86 = .ok (.getfield 44, 3) := by decide +kernel
theorem dX7_door_89 : decode cX7_door 89 = .ok (.iload_n 1, 1) := by decide +kernel
theorem dX7_door_90 : decode cX7_door 90 = .ok (.invokevirtual 229, 3) := by decide +kernel
theorem dX7_door_93 : decode cX7_door 93 = .ok (.ireturn, 1) := by decide +kernel
theorem dX7_door_94 : decode cX7_door 94 = .ok (.aload_n 0, 1) := by decide +kernel
theorem dX7_door_95 : decode cX7_door 95 = .ok (.getfield 44, 3) := by decide +kernel
theorem dX7_door_98 : decode cX7_door 98 = .ok (.iload_n 1, 1) := by decide +kernel
theorem dX7_door_99 : decode cX7_door 99 = .ok (.invokevirtual 232, 3) := by decide +kernel
theorem dX7_door_102 : decode cX7_door 102 = .ok (.ireturn, 1) := by decide +kernel
theorem dX7_door_103 : decode cX7_door 103 = .ok (.new 213, 3) := by decide +kernel
theorem dX7_door_106 : decode cX7_door 106 = .ok (.dup, 1) := by decide +kernel
theorem dX7_door_107 : decode cX7_door 107 = .ok (.ldc 235, 2) := by decide +kernel
theorem dX7_door_109 : decode cX7_door 109 = .ok (.invokespecial 217, 3) := by decide +kernel
theorem dX7_door_112 : decode cX7_door 112 = .ok (.athrow, 1) := by decide +kernel
theorem dX7_row_0 : decode cX7_row 0 = .ok (.aload_n 0, 1) := by decide +kernel
theorem dX7_row_1 : decode cX7_row 1 = .ok (.getfield 28, 3) := by decide +kernel
theorem dX7_row_4 : decode cX7_row 4 = .ok (.iload_n 1, 1) := by decide +kernel
theorem dX7_row_5 : decode cX7_row 5 = .ok (.invokevirtual 210, 3) := by decide +kernel
theorem dX7_row_8 : decode cX7_row 8 = .ok (.ifCond .eq 15, 3) := by decide +kernel
theorem dX7_row_11 : decode cX7_row 11 = .ok (.aload_n 0, 1) := by decide +kernel
theorem dX7_row_12 : decode cX7_row 12 = .ok (.getfield 35, 3) := by decide +kernel
theorem dX7_row_15 : decode cX7_row 15 = .ok (.iload_n 1, 1) := by decide +kernel
theorem dX7_row_16 : decode cX7_row 16 = .ok (.iload_n 2, 1) := by decide +kernel
theorem dX7_row_17 : decode cX7_row 17 = .ok (.invokevirtual 237, 3) := by decide +kernel
theorem dX7_row_20 : decode cX7_row 20 = .ok (.goto 4, 3) := by decide +kernel
theorem dX7_row_23 : decode cX7_row 23 = .ok (.iconst (-1), 1) := by decide +kernel
theorem dX7_row_24 : decode cX7_row 24 = .ok (.ireturn, 1) := by decide +kernel
theorem dX7_truck_0 : decode cX7_truck 0 = .ok (.aload_n 0, 1) := by decide +kernel
theorem dX7_truck_1 : decode cX7_truck 1 = .ok (.getfield 28, 3) := by decide +kernel
theorem dX7_truck_4 : decode cX7_truck 4 = .ok (.iload_n 1, 1) := by decide +kernel
theorem dX7_truck_5 : decode cX7_truck 5 = .ok (.invokevirtual 240, 3) := by decide +kernel
theorem dX7_truck_8 : decode cX7_truck 8 = .ok (.ifCond .ne 13, 3) := by decide +kernel
theorem dX7_truck_11 : decode cX7_truck 11 = .ok (.new 213, 3) := by decide +kernel
theorem dX7_truck_14 : decode cX7_truck 14 = .ok (.dup, 1) := by decide +kernel
theorem dX7_truck_15 : decode cX7_truck 15 = .ok (.ldc 243, 2) := by decide +kernel
theorem dX7_truck_17 : decode cX7_truck 17 = .ok (.invokespecial 217, 3) := by decide +kernel
theorem dX7_truck_20 : decode cX7_truck 20 = .ok (.athrow, 1) := by decide +kernel
theorem dX7_truck_21 : decode cX7_truck 21 = .ok (.iload_n 2, 1) := by decide +kernel
theorem dX7_truck_22 : decode cX7_truck 22 = .ok (.tableswitch 199 0 12 #[66, 76, 86, 96, 106, 116, 126, 136, 146, 156, 166, 176, 185], 66) := by decide +kernel
theorem dX7_truck_88 : decode cX7_truck 88 = .ok (.aload_n 0, 1) := by decide +kernel
theorem dX7_truck_89 : decode cX7_truck 89 = .ok (.getfield 28, 3) := by decide +kernel
theorem dX7_truck_92 : decode cX7_truck 92 = .ok (.getfield 245, 3) := by decide +kernel
theorem dX7_truck_95 : decode cX7_truck 95 = .ok (.iload_n 1, 1) := by decide +kernel
theorem dX7_truck_96 : decode cX7_truck 96 = .ok (.iaload, 1) := by decide +kernel
theorem dX7_truck_97 : decode cX7_truck 97 = .ok (.ireturn, 1) := by decide +kernel
theorem dX7_truck_98 : decode cX7_truck 98 = .ok (.aload_n 0, 1) := by decide +kernel
theorem dX7_truck_99 : decode cX7_truck 99 = .ok (.getfield 35, 3) := by decide +kernel
theorem dX7_truck_102 : decode cX7_truck 102 = .ok (.getfield 149, 3) := by decide +kernel
theorem dX7_truck_105 : decode cX7_truck 105 = .ok (.iload_n 1, 1) := by decide +kernel
theorem dX7_truck_106 : decode cX7_truck 106 = .ok (.iaload, 1) := by decide +kernel
theorem dX7_truck_107 : decode cX7_truck 107 = .ok (.ireturn, 1) := by decide +kernel
theorem dX7_truck_108 : decode cX7_truck 108 = .ok (.aload_n 0, 1) := by decide +kernel
theorem dX7_truck_109 : decode cX7_truck 109 = .ok (.getfield 28, 3) := by decide +kernel
theorem dX7_truck_112 : decode cX7_truck 112 = .ok (.getfield 248, 3) := by decide +kernel
theorem dX7_truck_115 : decode cX7_truck 115 = .ok (.iload_n 1, 1) := by decide +kernel
theorem dX7_truck_116 : decode cX7_truck 116 = .ok (.iaload, 1) := by decide +kernel
theorem dX7_truck_117 : decode cX7_truck 117 = .ok (.ireturn, 1) := by decide +kernel
theorem dX7_truck_118 : decode cX7_truck 118 = .ok (.aload_n 0, 1) := by decide +kernel
theorem dX7_truck_119 : decode cX7_truck 119 = .ok (.getfield 28, 3) := by decide +kernel
theorem dX7_truck_122 : decode cX7_truck 122 = .ok (.getfield 251, 3) := by decide +kernel
theorem dX7_truck_125 : decode cX7_truck 125 = .ok (.iload_n 1, 1) := by decide +kernel
theorem dX7_truck_126 : decode cX7_truck 126 = .ok (.iaload, 1) := by decide +kernel
theorem dX7_truck_127 : decode cX7_truck 127 = .ok (.ireturn, 1) := by decide +kernel
theorem dX7_truck_128 : decode cX7_truck 128 = .ok (.aload_n 0, 1) := by decide +kernel
theorem dX7_truck_129 : decode cX7_truck 129 = .ok (.getfield 28, 3) := by decide +kernel
theorem dX7_truck_132 : decode cX7_truck 132 = .ok (.getfield 254, 3) := by decide +kernel
theorem dX7_truck_135 : decode cX7_truck 135 = .ok (.iload_n 1, 1) := by decide +kernel
theorem dX7_truck_136 : decode cX7_truck 136 = .ok (.iaload, 1) := by decide +kernel
theorem dX7_truck_137 : decode cX7_truck 137 = .ok (.ireturn, 1) := by decide +kernel
theorem dX7_truck_138 : decode cX7_truck 138 = .ok (.aload_n 0, 1) := by decide +kernel
theorem dX7_truck_139 : decode cX7_truck 139 = .ok (.getfield 28, 3) := by decide +kernel
theorem dX7_truck_142 : decode cX7_truck 142 = .ok (.getfield 257, 3) := by decide +kernel
theorem dX7_truck_145 : decode cX7_truck 145 = .ok (.iload_n 1, 1) := by decide +kernel
theorem dX7_truck_146 : decode cX7_truck 146 = .ok (.iaload, 1) := by decide +kernel
theorem dX7_truck_147 : decode cX7_truck 147 = .ok (.ireturn, 1) := by decide +kernel
theorem dX7_truck_148 : decode cX7_truck 148 = .ok (.aload_n 0, 1) := by decide +kernel
theorem dX7_truck_149 : decode cX7_truck 149 = .ok (.getfield 35, 3) := by decide +kernel
theorem dX7_truck_152 : decode cX7_truck 152 = .ok (.getfield 260, 3) := by decide +kernel
theorem dX7_truck_155 : decode cX7_truck 155 = .ok (.iload_n 1, 1) := by decide +kernel
theorem dX7_truck_156 : decode cX7_truck 156 = .ok (.iaload, 1) := by decide +kernel
theorem dX7_truck_157 : decode cX7_truck 157 = .ok (.ireturn, 1) := by decide +kernel
theorem dX7_truck_158 : decode cX7_truck 158 = .ok (.aload_n 0, 1) := by decide +kernel
theorem dX7_truck_159 : decode cX7_truck 159 = .ok (.getfield 35, 3) := by decide +kernel
theorem dX7_truck_162 : decode cX7_truck 162 = .ok (.getfield 263, 3) := by decide +kernel
theorem dX7_truck_165 : decode cX7_truck 165 = .ok (.iload_n 1, 1) := by decide +kernel
theorem dX7_truck_166 : decode cX7_truck 166 = .ok (.iaload, 1) := by decide +kernel
theorem dX7_truck_167 : decode cX7_truck 167 = .ok (.ireturn, 1) := by decide +kernel
theorem dX7_truck_168 : decode cX7_truck 168 = .ok (.aload_n 0, 1) := by decide +kernel
theorem dX7_truck_169 : decode cX7_truck 169 = .ok (.getfield 44, 3) := by decide +kernel
theorem dX7_truck_172 : decode cX7_truck 172 = .ok (.getfield 266, 3) := by decide +kernel
theorem dX7_truck_175 : decode cX7_truck 175 = .ok (.iload_n 1, 1) := by decide +kernel
theorem dX7_truck_176 : decode cX7_truck 176 = .ok (.iaload, 1) := by decide +kernel
theorem dX7_truck_177 : decode cX7_truck 177 = .ok (.ireturn, 1) := by decide +kernel
theorem dX7_truck_178 : decode cX7_truck 178 = .ok (.aload_n 0, 1) := by decide +kernel
theorem dX7_truck_179 : decode cX7_truck 179 = .ok (.getfield 44, 3) := by decide +kernel
theorem dX7_truck_182 : decode cX7_truck 182 = .ok (.getfield 269, 3) := by decide +kernel
theorem dX7_truck_185 : decode cX7_truck 185 = .ok (.iload_n 1, 1) := by decide +kernel
theorem dX7_truck_186 : decode cX7_truck 186 = .ok (.iaload, 1) := by decide +kernel
theorem dX7_truck_187 : decode cX7_truck 187 = .ok (.ireturn, 1) := by decide +kernel
theorem dX7_truck_188 : decode cX7_truck 188 = .ok (.aload_n 0, 1) := by decide +kernel
theorem dX7_truck_189 : decode cX7_truck 189 = .ok (.getfield 44, 3) := by decide +kernel
theorem dX7_truck_192 : decode cX7_truck 192 = .ok (.getfield 272, 3) := by decide +kernel
theorem dX7_truck_195 : decode cX7_truck 195 = .ok (.iload_n 1, 1) := by decide +kernel
theorem dX7_truck_196 : decode cX7_truck 196 = .ok (.iaload, 1) := by decide +kernel
theorem dX7_truck_197 : decode cX7_truck 197 = .ok (.ireturn, 1) := by decide +kernel
theorem dX7_truck_198 : decode cX7_truck 198 = .ok (.aload_n 0, 1) := by decide +kernel
theorem dX7_truck_199 : decode cX7_truck 199 = .ok (.getfield 44, 3) := by decide +kernel
theorem dX7_truck_202 : decode cX7_truck 202 = .ok (.iload_n 1, 1) := by decide +kernel
theorem dX7_truck_203 : decode cX7_truck 203 = .ok (.invokevirtual 275, 3) := by decide +kernel
theorem dX7_truck_206 : decode cX7_truck 206 = .ok (.ireturn, 1) := by decide +kernel
theorem dX7_truck_207 : decode cX7_truck 207 = .ok (.aload_n 0, 1) := by decide +kernel
theorem dX7_truck_208 : decode cX7_truck 208 = .ok (.iload_n 1, 1) := by decide +kernel
theorem dX7_truck_209 : decode cX7_truck 209 = .ok (.invokevirtual 145, 3) := by decide +kernel
theorem dX7_truck_212 : decode cX7_truck 212 = .ok (.ifCond .eq 7, 3) := by decide +kernel
theorem dX7_truck_215 : decode cX7_truck 215 = .ok (.iconst 1, 1) := by decide +kernel
theorem dX7_truck_216 : decode cX7_truck 216 = .ok (.goto 4, 3) := by decide +kernel
theorem dX7_truck_219 : decode cX7_truck 219 = .ok (.iconst 0, 1) := by decide +kernel
theorem dX7_truck_220 : decode cX7_truck 220 = .ok (.ireturn, 1) := by decide +kernel
theorem dX7_truck_221 : decode cX7_truck 221 = .ok (.iload_n 2, 1) := by decide +kernel
theorem dX7_truck_222 : decode cX7_truck 222 = .ok (.bipush 20, 2) := by decide +kernel
theorem dX7_truck_224 : decode cX7_truck 224 = .ok (.if_icmp .ge 7, 3) := by decide +kernel
theorem dX7_truck_227 : decode cX7_truck 227 = .ok (.iconst (-1), 1) := by decide +kernel
theorem dX7_truck_228 : decode cX7_truck 228 = .ok (.goto 7, 3) := by decide +kernel
theorem dX7_truck_231 : decode cX7_truck 231 = .ok (.iload_n 2, 1) := by decide +kernel
theorem dX7_truck_232 : decode cX7_truck 232 = .ok (.bipush 20, 2) := by decide +kernel
theorem dX7_truck_234 : decode cX7_truck 234 = .ok (.isub, 1) := by decide +kernel
theorem dX7_truck_235 : decode cX7_truck 235 = .ok (.istore_n 3, 1) := by decide +kernel
theorem dX7_truck_236 : decode cX7_truck 236 = .ok (.iload_n 3, 1) := by decide +kernel
theorem dX7_truck_237 : decode cX7_truck 237 = .ok (.ifCond .lt 8, 3) := by decide +kernel
theorem dX7_truck_240 : decode cX7_truck 240 = .ok (.iload_n 3, 1) := by decide +kernel
theorem dX7_truck_241 : decode cX7_truck 241 = .ok (.iconst 4, 1) := by decide +kernel
theorem dX7_truck_242 : decode cX7_truck 242 = .ok (.if_icmp .lt 14, 3) := by decide +kernel
theorem dX7_truck_245 : decode cX7_truck 245 = .ok (.new 213, 3) := by decide +kernel
theorem dX7_truck_248 : decode cX7_truck 248 = .ok (.dup, 1) := by decide +kernel
theorem dX7_truck_249 : decode cX7_truck 249 = .ok (.ldc_w 278, 3) := by decide +kernel
theorem dX7_truck_252 : decode cX7_truck 252 = .ok (.invokespecial 217, 3) := by decide +kernel
theorem dX7_truck_255 : decode cX7_truck 255 = .ok (.athrow, 1) := by decide +kernel
theorem dX7_truck_256 : decode cX7_truck 256 = .ok (.aload_n 0, 1) := by decide +kernel
theorem dX7_truck_257 : decode cX7_truck 257 = .ok (.getfield 28, 3) := by decide +kernel
theorem dX7_truck_260 : decode cX7_truck 260 = .ok (.iload_n 1, 1) := by decide +kernel
theorem dX7_truck_261 : decode cX7_truck 261 = .ok (.iload_n 3, 1) := by decide +kernel
theorem dX7_truck_262 : decode cX7_truck 262 = .ok (.invokevirtual 280, 3) := by decide +kernel
theorem dX7_truck_265 : decode cX7_truck 265 = .ok (.ireturn, 1) := by decide +kernel
theorem dX7_carton_0 : decode cX7_carton 0 = .ok (.aload_n 0, 1) := by decide +kernel
theorem dX7_carton_1 : decode cX7_carton 1 = .ok (.getfield 28, 3) := by decide +kernel
theorem dX7_carton_4 : decode cX7_carton 4 = .ok (.iload_n 1, 1) := by decide +kernel
theorem dX7_carton_5 : decode cX7_carton 5 = .ok (.invokevirtual 283, 3) := by decide +kernel
theorem dX7_carton_8 : decode cX7_carton 8 = .ok (.ifCond .ne 14, 3) := by decide +kernel
theorem dX7_carton_11 : decode cX7_carton 11 = .ok (.new 213, 3) := by decide +kernel
theorem dX7_carton_14 : decode cX7_carton 14 = .ok (.dup, 1) := by decide +kernel
theorem dX7_carton_15 : decode cX7_carton 15 = .ok (.ldc_w 286, 3) := by decide +kernel
theorem dX7_carton_18 : decode cX7_carton 18 = .ok (.invokespecial 217, 3) := by decide +kernel
theorem dX7_carton_21 : decode cX7_carton 21 = .ok (.athrow, 1) := by decide +kernel
theorem dX7_carton_22 : decode cX7_carton 22 = .ok (.iload_n 2, 1) := by decide +kernel
theorem dX7_carton_23 : decode cX7_carton 23 = .ok (.tableswitch 97 0 5 #[37, 47, 57, 67, 77, 87], 37) := by decide +kernel
theorem dX7_carton_60 : decode cX7_carton 60 = .ok (.aload_n 0, 1) := by decide +kernel
theorem dX7_carton_61 : decode cX7_carton 61 = .ok (.getfield 28, 3) := by decide +kernel
theorem dX7_carton_64 : decode cX7_carton 64 = .ok (.getfield 288, 3) := by decide +kernel
theorem dX7_carton_67 : decode cX7_carton 67 = .ok (.iload_n 1, 1) := by decide +kernel
theorem dX7_carton_68 : decode cX7_carton 68 = .ok (.iaload, 1) := by decide +kernel
theorem dX7_carton_69 : decode cX7_carton 69 = .ok (.ireturn, 1) := by decide +kernel
theorem dX7_carton_70 : decode cX7_carton 70 = .ok (.aload_n 0, 1) := by decide +kernel
theorem dX7_carton_71 : decode cX7_carton 71 = .ok (.getfield 28, 3) := by decide +kernel
theorem dX7_carton_74 : decode cX7_carton 74 = .ok (.getfield 291, 3) := by decide +kernel
theorem dX7_carton_77 : decode cX7_carton 77 = .ok (.iload_n 1, 1) := by decide +kernel
theorem dX7_carton_78 : decode cX7_carton 78 = .ok (.iaload, 1) := by decide +kernel
theorem dX7_carton_79 : decode cX7_carton 79 = .ok (.ireturn, 1) := by decide +kernel
theorem dX7_carton_80 : decode cX7_carton 80 = .ok (.aload_n 0, 1) := by decide +kernel
theorem dX7_carton_81 : decode cX7_carton 81 = .ok (.getfield 44, 3) := by decide +kernel
theorem dX7_carton_84 : decode cX7_carton 84 = .ok (.getfield 294, 3) := by decide +kernel
theorem dX7_carton_87 : decode cX7_carton 87 = .ok (.iload_n 1, 1) := by decide +kernel
theorem dX7_carton_88 : decode cX7_carton 88 = .ok (.iaload, 1) := by decide +kernel
theorem dX7_carton_89 : decode cX7_carton 89 = .ok (.ireturn, 1) := by decide +kernel
theorem dX7_carton_90 : decode cX7_carton 90 = .ok (.aload_n 0, 1) := by decide +kernel
theorem dX7_carton_91 : decode cX7_carton 91 = .ok (.getfield 44, 3) := by decide +kernel
theorem dX7_carton_94 : decode cX7_carton 94 = .ok (.getfield 297, 3) := by decide +kernel
theorem dX7_carton_97 : decode cX7_carton 97 = .ok (.iload_n 1, 1) := by decide +kernel
theorem dX7_carton_98 : decode cX7_carton 98 = .ok (.iaload, 1) := by decide +kernel
theorem dX7_carton_99 : decode cX7_carton 99 = .ok (.ireturn, 1) := by decide +kernel
theorem dX7_carton_100 : decode cX7_carton 100 = .ok (.aload_n 0, 1) := by decide +kernel
theorem dX7_carton_101 : decode cX7_carton 101 = .ok (.getfield 44, 3) := by decide +kernel
theorem dX7_carton_104 : decode cX7_carton 104 = .ok (.getfield 300, 3) := by decide +kernel
theorem dX7_carton_107 : decode cX7_carton 107 = .ok (.iload_n 1, 1) := by decide +kernel
theorem dX7_carton_108 : decode cX7_carton 108 = .ok (.iaload, 1) := by decide +kernel
theorem dX7_carton_109 : decode cX7_carton 109 = .ok (.ireturn, 1) := by decide +kernel
theorem dX7_carton_110 : decode cX7_carton 110 = .ok (.aload_n 0, 1) := by decide +kernel
theorem dX7_carton_111 : decode cX7_carton 111 = .ok (.getfield 44, 3) := by decide +kernel
theorem dX7_carton_114 : decode cX7_carton 114 = .ok (.getfield 303, 3) := by decide +kernel
theorem dX7_carton_117 : decode cX7_carton 117 = .ok (.iload_n 1, 1) := by decide +kernel
theorem dX7_carton_118 : decode cX7_carton 118 = .ok (.iaload, 1) := by decide +kernel
theorem dX7_carton_119 : decode cX7_carton 119 = .ok (.ireturn, 1) := by decide +kernel
theorem dX7_carton_120 : decode cX7_carton 120 = .ok (.new 213, 3) := by decide +kernel
theorem dX7_carton_123 : decode cX7_carton 123 = .ok (.dup, 1) := by decide +kernel
theorem dX7_carton_124 : decode cX7_carton 124 = .ok (.ldc_w 306, 3) := by decide +kernel
theorem dX7_carton_127 : decode cX7_carton 127 = .ok (.invokespecial 217, 3) := by decide +kernel
theorem dX7_carton_130 : decode cX7_carton 130 = .ok (.athrow, 1) := by decide +kernel
theorem dX7_staged_0 : decode cX7_staged 0 = .ok (.iload_n 1, 1) := by decide +kernel
theorem dX7_staged_1 : decode cX7_staged 1 = .ok (.invokestatic 308, 3) := by decide +kernel
theorem dX7_staged_4 : decode cX7_staged 4 = .ok (.ifCond .eq 13, 3) := by decide +kernel
theorem dX7_staged_7 : decode cX7_staged 7 = .ok (.iload_n 2, 1) := by decide +kernel
theorem dX7_staged_8 : decode cX7_staged 8 = .ok (.iconst (-1), 1) := by decide +kernel
theorem dX7_staged_9 : decode cX7_staged 9 = .ok (.if_icmp .lt 8, 3) := by decide +kernel
theorem dX7_staged_12 : decode cX7_staged 12 = .ok (.iload_n 2, 1) := by decide +kernel
theorem dX7_staged_13 : decode cX7_staged 13 = .ok (.iconst 4, 1) := by decide +kernel
theorem dX7_staged_14 : decode cX7_staged 14 = .ok (.if_icmp .lt 5, 3) := by decide +kernel
theorem dX7_staged_17 : decode cX7_staged 17 = .ok (.iconst (-1), 1) := by decide +kernel
theorem dX7_staged_18 : decode cX7_staged 18 = .ok (.ireturn, 1) := by decide +kernel
theorem dX7_staged_19 : decode cX7_staged 19 = .ok (.aload_n 0, 1) := by decide +kernel
theorem dX7_staged_20 : decode cX7_staged 20 = .ok (.getfield 44, 3) := by decide +kernel
theorem dX7_staged_23 : decode cX7_staged 23 = .ok (.iload_n 1, 1) := by decide +kernel
theorem dX7_staged_24 : decode cX7_staged 24 = .ok (.iload_n 2, 1) := by decide +kernel
theorem dX7_staged_25 : decode cX7_staged 25 = .ok (.invokevirtual 311, 3) := by decide +kernel
theorem dX7_staged_28 : decode cX7_staged 28 = .ok (.ireturn, 1) := by decide +kernel
theorem dX7_at_0 : decode cX7_at 0 = .ok (.aload_n 0, 1) := by decide +kernel
theorem dX7_at_1 : decode cX7_at 1 = .ok (.getfield 28, 3) := by decide +kernel
theorem dX7_at_4 : decode cX7_at 4 = .ok (.iload_n 1, 1) := by decide +kernel
theorem dX7_at_5 : decode cX7_at 5 = .ok (.invokevirtual 210, 3) := by decide +kernel
theorem dX7_at_8 : decode cX7_at 8 = .ok (.ifCond .eq 10, 3) := by decide +kernel
theorem dX7_at_11 : decode cX7_at 11 = .ok (.iload_n 2, 1) := by decide +kernel
theorem dX7_at_12 : decode cX7_at 12 = .ok (.invokestatic 308, 3) := by decide +kernel
theorem dX7_at_15 : decode cX7_at 15 = .ok (.ifCond .ne 5, 3) := by decide +kernel
theorem dX7_at_18 : decode cX7_at 18 = .ok (.iconst (-1), 1) := by decide +kernel
theorem dX7_at_19 : decode cX7_at 19 = .ok (.ireturn, 1) := by decide +kernel
theorem dX7_at_20 : decode cX7_at 20 = .ok (.aload_n 0, 1) := by decide +kernel
theorem dX7_at_21 : decode cX7_at 21 = .ok (.getfield 44, 3) := by decide +kernel
theorem dX7_at_24 : decode cX7_at 24 = .ok (.iload_n 1, 1) := by decide +kernel
theorem dX7_at_25 : decode cX7_at 25 = .ok (.iload_n 2, 1) := by decide +kernel
theorem dX7_at_26 : decode cX7_at 26 = .ok (.invokevirtual 314, 3) := by decide +kernel
theorem dX7_at_29 : decode cX7_at 29 = .ok (.ireturn, 1) := by decide +kernel
theorem dX7_travel_0 : decode cX7_travel 0 = .ok (.aload_n 0, 1) := by decide +kernel
theorem dX7_travel_1 : decode cX7_travel 1 = .ok (.getfield 28, 3) := by decide +kernel
theorem dX7_travel_4 : decode cX7_travel 4 = .ok (.iload_n 1, 1) := by decide +kernel
theorem dX7_travel_5 : decode cX7_travel 5 = .ok (.invokevirtual 210, 3) := by decide +kernel
theorem dX7_travel_8 : decode cX7_travel 8 = .ok (.ifCond .eq 14, 3) := by decide +kernel
theorem dX7_travel_11 : decode cX7_travel 11 = .ok (.aload_n 0, 1) := by decide +kernel
theorem dX7_travel_12 : decode cX7_travel 12 = .ok (.getfield 28, 3) := by decide +kernel
theorem dX7_travel_15 : decode cX7_travel 15 = .ok (.iload_n 2, 1) := by decide +kernel
theorem dX7_travel_16 : decode cX7_travel 16 = .ok (.invokevirtual 210, 3) := by decide +kernel
theorem dX7_travel_19 : decode cX7_travel 19 = .ok (.ifCond .ne 5, 3) := by decide +kernel
theorem dX7_travel_22 : decode cX7_travel 22 = .ok (.iconst (-1), 1) := by decide +kernel
theorem dX7_travel_23 : decode cX7_travel 23 = .ok (.ireturn, 1) := by decide +kernel
theorem dX7_travel_24 : decode cX7_travel 24 = .ok (.aload_n 0, 1) := by decide +kernel
theorem dX7_travel_25 : decode cX7_travel 25 = .ok (.getfield 28, 3) := by decide +kernel
theorem dX7_travel_28 : decode cX7_travel 28 = .ok (.getfield 223, 3) := by decide +kernel
theorem dX7_travel_31 : decode cX7_travel 31 = .ok (.iload_n 1, 1) := by decide +kernel
theorem dX7_travel_32 : decode cX7_travel 32 = .ok (.iaload, 1) := by decide +kernel
theorem dX7_travel_33 : decode cX7_travel 33 = .ok (.aload_n 0, 1) := by decide +kernel
theorem dX7_travel_34 : decode cX7_travel 34 = .ok (.getfield 28, 3) := by decide +kernel
theorem dX7_travel_37 : decode cX7_travel 37 = .ok (.getfield 223, 3) := by decide +kernel
theorem dX7_travel_40 : decode cX7_travel 40 = .ok (.iload_n 2, 1) := by decide +kernel
theorem dX7_travel_41 : decode cX7_travel 41 = .ok (.iaload, 1) := by decide +kernel
theorem dX7_travel_42 : decode cX7_travel 42 = .ok (.invokestatic 317, 3) := by decide +kernel
theorem dX7_travel_45 : decode cX7_travel 45 = .ok (.ireturn, 1) := by decide +kernel
theorem dX7_would_0 : decode cX7_would 0 = .ok (.aload_n 0, 1) := by decide +kernel
theorem dX7_would_1 : decode cX7_would 1 = .ok (.iload_n 1, 1) := by decide +kernel
theorem dX7_would_2 : decode cX7_would 2 = .ok (.iload_n 2, 1) := by decide +kernel
theorem dX7_would_3 : decode cX7_would 3 = .ok (.iload_n 3, 1) := by decide +kernel
theorem dX7_would_4 : decode cX7_would 4 = .ok (.invokevirtual 121, 3) := by decide +kernel
theorem dX7_would_7 : decode cX7_would 7 = .ok (.istore 4, 2) := by decide +kernel
theorem dX7_would_9 : decode cX7_would 9 = .ok (.iload 4, 2) := by decide +kernel
theorem dX7_would_11 : decode cX7_would 11 = .ok (.ifCond .eq 6, 3) := by decide +kernel
theorem dX7_would_14 : decode cX7_would 14 = .ok (.iload 4, 2) := by decide +kernel
theorem dX7_would_16 : decode cX7_would 16 = .ok (.ireturn, 1) := by decide +kernel
theorem dX7_would_17 : decode cX7_would 17 = .ok (.aload_n 0, 1) := by decide +kernel
theorem dX7_would_18 : decode cX7_would 18 = .ok (.getfield 48, 3) := by decide +kernel
theorem dX7_would_21 : decode cX7_would 21 = .ok (.aload_n 0, 1) := by decide +kernel
theorem dX7_would_22 : decode cX7_would 22 = .ok (.getfield 35, 3) := by decide +kernel
theorem dX7_would_25 : decode cX7_would 25 = .ok (.invokevirtual 320, 3) := by decide +kernel
theorem dX7_would_28 : decode cX7_would 28 = .ok (.aload_n 0, 1) := by decide +kernel
theorem dX7_would_29 : decode cX7_would 29 = .ok (.getfield 48, 3) := by decide +kernel
theorem dX7_would_32 : decode cX7_would 32 = .ok (.iload_n 1, 1) := by decide +kernel
theorem dX7_would_33 : decode cX7_would 33 = .ok (.iload_n 2, 1) := by decide +kernel
theorem dX7_would_34 : decode cX7_would 34 = .ok (.iload_n 3, 1) := by decide +kernel
theorem dX7_would_35 : decode cX7_would 35 = .ok (.invokevirtual 129, 3) := by decide +kernel
theorem dX7_would_38 : decode cX7_would 38 = .ok (.aload_n 0, 1) := by decide +kernel
theorem dX7_would_39 : decode cX7_would 39 = .ok (.getfield 51, 3) := by decide +kernel
theorem dX7_would_42 : decode cX7_would 42 = .ok (.aload_n 0, 1) := by decide +kernel
theorem dX7_would_43 : decode cX7_would 43 = .ok (.getfield 28, 3) := by decide +kernel
theorem dX7_would_46 : decode cX7_would 46 = .ok (.getfield 111, 3) := by decide +kernel
theorem dX7_would_49 : decode cX7_would 49 = .ok (.invokevirtual 114, 3) := by decide +kernel
theorem dX7_would_52 : decode cX7_would 52 = .ok (.ireturn, 1) := by decide +kernel
theorem dX7_delayed_0 : decode cX7_delayed 0 = .ok (.aload_n 0, 1) := by decide +kernel
theorem dX7_delayed_1 : decode cX7_delayed 1 = .ok (.iload_n 1, 1) := by decide +kernel
theorem dX7_delayed_2 : decode cX7_delayed 2 = .ok (.iload_n 2, 1) := by decide +kernel
theorem dX7_delayed_3 : decode cX7_delayed 3 = .ok (.invokevirtual 141, 3) := by decide +kernel
theorem dX7_delayed_6 : decode cX7_delayed 6 = .ok (.ifCond .ne 5, 3) := by decide +kernel
theorem dX7_delayed_9 : decode cX7_delayed 9 = .ok (.iconst (-1), 1) := by decide +kernel
theorem dX7_delayed_10 : decode cX7_delayed 10 = .ok (.ireturn, 1) := by decide +kernel
theorem dX7_delayed_11 : decode cX7_delayed 11 = .ok (.aload_n 0, 1) := by decide +kernel
theorem dX7_delayed_12 : decode cX7_delayed 12 = .ok (.getfield 48, 3) := by decide +kernel
theorem dX7_delayed_15 : decode cX7_delayed 15 = .ok (.aload_n 0, 1) := by decide +kernel
theorem dX7_delayed_16 : decode cX7_delayed 16 = .ok (.getfield 35, 3) := by decide +kernel
theorem dX7_delayed_19 : decode cX7_delayed 19 = .ok (.invokevirtual 320, 3) := by decide +kernel
theorem dX7_delayed_22 : decode cX7_delayed 22 = .ok (.aload_n 0, 1) := by decide +kernel
theorem dX7_delayed_23 : decode cX7_delayed 23 = .ok (.getfield 48, 3) := by decide +kernel
theorem dX7_delayed_26 : decode cX7_delayed 26 = .ok (.getfield 149, 3) := by decide +kernel
theorem dX7_delayed_29 : decode cX7_delayed 29 = .ok (.iload_n 1, 1) := by decide +kernel
theorem dX7_delayed_30 : decode cX7_delayed 30 = .ok (.dup2, 1) := by decide +kernel
theorem dX7_delayed_31 : decode cX7_delayed 31 = .ok (.iaload, 1) := by decide +kernel
theorem dX7_delayed_32 : decode cX7_delayed 32 = .ok (.iload_n 2, 1) := by decide +kernel
theorem dX7_delayed_33 : decode cX7_delayed 33 = .ok (.iadd, 1) := by decide +kernel
theorem dX7_delayed_34 : decode cX7_delayed 34 = .ok (.iastore, 1) := by decide +kernel
theorem dX7_delayed_35 : decode cX7_delayed 35 = .ok (.aload_n 0, 1) := by decide +kernel
theorem dX7_delayed_36 : decode cX7_delayed 36 = .ok (.getfield 51, 3) := by decide +kernel
theorem dX7_delayed_39 : decode cX7_delayed 39 = .ok (.aload_n 0, 1) := by decide +kernel
theorem dX7_delayed_40 : decode cX7_delayed 40 = .ok (.getfield 28, 3) := by decide +kernel
theorem dX7_delayed_43 : decode cX7_delayed 43 = .ok (.getfield 111, 3) := by decide +kernel
theorem dX7_delayed_46 : decode cX7_delayed 46 = .ok (.invokevirtual 114, 3) := by decide +kernel
theorem dX7_delayed_49 : decode cX7_delayed 49 = .ok (.ireturn, 1) := by decide +kernel
theorem dX7_roomy_0 : decode cX7_roomy 0 = .ok (.iload_n 1, 1) := by decide +kernel
theorem dX7_roomy_1 : decode cX7_roomy 1 = .ok (.ifCond .lt 9, 3) := by decide +kernel
theorem dX7_roomy_4 : decode cX7_roomy 4 = .ok (.iload_n 1, 1) := by decide +kernel
theorem dX7_roomy_5 : decode cX7_roomy 5 = .ok (.bipush 40, 2) := by decide +kernel
theorem dX7_roomy_7 : decode cX7_roomy 7 = .ok (.if_icmp .le 5, 3) := by decide +kernel
theorem dX7_roomy_10 : decode cX7_roomy 10 = .ok (.iconst (-1), 1) := by decide +kernel
theorem dX7_roomy_11 : decode cX7_roomy 11 = .ok (.ireturn, 1) := by decide +kernel
theorem dX7_roomy_12 : decode cX7_roomy 12 = .ok (.aload_n 0, 1) := by decide +kernel
theorem dX7_roomy_13 : decode cX7_roomy 13 = .ok (.getfield 48, 3) := by decide +kernel
theorem dX7_roomy_16 : decode cX7_roomy 16 = .ok (.aload_n 0, 1) := by decide +kernel
theorem dX7_roomy_17 : decode cX7_roomy 17 = .ok (.getfield 35, 3) := by decide +kernel
theorem dX7_roomy_20 : decode cX7_roomy 20 = .ok (.invokevirtual 320, 3) := by decide +kernel
theorem dX7_roomy_23 : decode cX7_roomy 23 = .ok (.aload_n 0, 1) := by decide +kernel
theorem dX7_roomy_24 : decode cX7_roomy 24 = .ok (.getfield 51, 3) := by decide +kernel
theorem dX7_roomy_27 : decode cX7_roomy 27 = .ok (.iload_n 1, 1) := by decide +kernel
theorem dX7_roomy_28 : decode cX7_roomy 28 = .ok (.invokevirtual 114, 3) := by decide +kernel
theorem dX7_roomy_31 : decode cX7_roomy 31 = .ok (.ireturn, 1) := by decide +kernel
theorem dX7_least_0 : decode cX7_least 0 = .ok (.aload_n 0, 1) := by decide +kernel
theorem dX7_least_1 : decode cX7_least 1 = .ok (.getfield 48, 3) := by decide +kernel
theorem dX7_least_4 : decode cX7_least 4 = .ok (.aload_n 0, 1) := by decide +kernel
theorem dX7_least_5 : decode cX7_least 5 = .ok (.getfield 35, 3) := by decide +kernel
theorem dX7_least_8 : decode cX7_least 8 = .ok (.invokevirtual 320, 3) := by decide +kernel
theorem dX7_least_11 : decode cX7_least 11 = .ok (.iconst 0, 1) := by decide +kernel
theorem dX7_least_12 : decode cX7_least 12 = .ok (.istore_n 1, 1) := by decide +kernel
theorem dX7_least_13 : decode cX7_least 13 = .ok (.iload_n 1, 1) := by decide +kernel
theorem dX7_least_14 : decode cX7_least 14 = .ok (.aload_n 0, 1) := by decide +kernel
theorem dX7_least_15 : decode cX7_least 15 = .ok (.getfield 28, 3) := by decide +kernel
theorem dX7_least_18 : decode cX7_least 18 = .ok (.getfield 111, 3) := by decide +kernel
theorem dX7_least_21 : decode cX7_least 21 = .ok (.if_icmp .ge 29, 3) := by decide +kernel
theorem dX7_least_24 : decode cX7_least 24 = .ok (.aload_n 0, 1) := by decide +kernel
theorem dX7_least_25 : decode cX7_least 25 = .ok (.getfield 51, 3) := by decide +kernel
theorem dX7_least_28 : decode cX7_least 28 = .ok (.iload_n 1, 1) := by decide +kernel
theorem dX7_least_29 : decode cX7_least 29 = .ok (.invokevirtual 114, 3) := by decide +kernel
theorem dX7_least_32 : decode cX7_least 32 = .ok (.aload_n 0, 1) := by decide +kernel
theorem dX7_least_33 : decode cX7_least 33 = .ok (.getfield 44, 3) := by decide +kernel
theorem dX7_least_36 : decode cX7_least 36 = .ok (.getfield 177, 3) := by decide +kernel
theorem dX7_least_39 : decode cX7_least 39 = .ok (.if_icmp .gt 5, 3) := by decide +kernel
theorem dX7_least_42 : decode cX7_least 42 = .ok (.iload_n 1, 1) := by decide +kernel
theorem dX7_least_43 : decode cX7_least 43 = .ok (.ireturn, 1) := by decide +kernel
theorem dX7_least_44 : decode cX7_least 44 = .ok (.iinc 1 1, 3) := by decide +kernel
theorem dX7_least_47 : decode cX7_least 47 = .ok (.goto (-34), 3) := by decide +kernel
theorem dX7_least_50 : decode cX7_least 50 = .ok (.aload_n 0, 1) := by decide +kernel
theorem dX7_least_51 : decode cX7_least 51 = .ok (.getfield 28, 3) := by decide +kernel
theorem dX7_least_54 : decode cX7_least 54 = .ok (.getfield 111, 3) := by decide +kernel
theorem dX7_least_57 : decode cX7_least 57 = .ok (.ireturn, 1) := by decide +kernel
theorem dX7_moves_0 : decode cX7_moves 0 = .ok (.iload_n 1, 1) := by decide +kernel
theorem dX7_moves_1 : decode cX7_moves 1 = .ok (.ifCond .eq 10, 3) := by decide +kernel
theorem dX7_moves_4 : decode cX7_moves 4 = .ok (.aload_n 0, 1) := by decide +kernel
theorem dX7_moves_5 : decode cX7_moves 5 = .ok (.invokevirtual 322, 3) := by decide +kernel
theorem dX7_moves_8 : decode cX7_moves 8 = .ok (.goto 7, 3) := by decide +kernel
theorem dX7_moves_11 : decode cX7_moves 11 = .ok (.aload_n 0, 1) := by decide +kernel
theorem dX7_moves_12 : decode cX7_moves 12 = .ok (.invokevirtual 325, 3) := by decide +kernel
theorem dX7_moves_15 : decode cX7_moves 15 = .ok (.ireturn, 1) := by decide +kernel
theorem dX7_image_0 : decode cX7_image 0 = .ok (.iload_n 1, 1) := by decide +kernel
theorem dX7_image_1 : decode cX7_image 1 = .ok (.ifCond .lt 12, 3) := by decide +kernel
theorem dX7_image_4 : decode cX7_image 4 = .ok (.iload_n 1, 1) := by decide +kernel
theorem dX7_image_5 : decode cX7_image 5 = .ok (.aload_n 0, 1) := by decide +kernel
theorem dX7_image_6 : decode cX7_image 6 = .ok (.getfield 66, 3) := by decide +kernel
theorem dX7_image_9 : decode cX7_image 9 = .ok (.arraylength, 1) := by decide +kernel
theorem dX7_image_10 : decode cX7_image 10 = .ok (.if_icmp .lt 5, 3) := by decide +kernel
theorem dX7_image_13 : decode cX7_image 13 = .ok (.iconst 0, 1) := by decide +kernel
theorem dX7_image_14 : decode cX7_image 14 = .ok (.ireturn, 1) := by decide +kernel
theorem dX7_image_15 : decode cX7_image 15 = .ok (.aload_n 0, 1) := by decide +kernel
theorem dX7_image_16 : decode cX7_image 16 = .ok (.getfield 66, 3) := by decide +kernel
theorem dX7_image_19 : decode cX7_image 19 = .ok (.iload_n 1, 1) := by decide +kernel
theorem dX7_image_20 : decode cX7_image 20 = .ok (.aaload, 1) := by decide +kernel
theorem dX7_image_21 : decode cX7_image 21 = .ok (.astore_n 2, 1) := by decide +kernel
theorem dX7_image_22 : decode cX7_image 22 = .ok (.aload_n 2, 1) := by decide +kernel
theorem dX7_image_23 : decode cX7_image 23 = .ok (.iconst 1, 1) := by decide +kernel
theorem dX7_image_24 : decode cX7_image 24 = .ok (.putfield 328, 3) := by decide +kernel
theorem dX7_image_27 : decode cX7_image 27 = .ok (.aload_n 2, 1) := by decide +kernel
theorem dX7_image_28 : decode cX7_image 28 = .ok (.aload_n 0, 1) := by decide +kernel
theorem dX7_image_29 : decode cX7_image 29 = .ok (.getfield 71, 3) := by decide +kernel
theorem dX7_image_32 : decode cX7_image 32 = .ok (.putfield 332, 3) := by decide +kernel
theorem dX7_image_35 : decode cX7_image 35 = .ok (.aload_n 2, 1) := by decide +kernel
theorem dX7_image_36 : decode cX7_image 36 = .ok (.aload_n 0, 1) := by decide +kernel
theorem dX7_image_37 : decode cX7_image 37 = .ok (.getfield 75, 3) := by decide +kernel
theorem dX7_image_40 : decode cX7_image 40 = .ok (.putfield 333, 3) := by decide +kernel
theorem dX7_image_43 : decode cX7_image 43 = .ok (.aload_n 2, 1) := by decide +kernel
theorem dX7_image_44 : decode cX7_image 44 = .ok (.getfield 334, 3) := by decide +kernel
theorem dX7_image_47 : decode cX7_image 47 = .ok (.aload_n 0, 1) := by decide +kernel
theorem dX7_image_48 : decode cX7_image 48 = .ok (.getfield 10, 3) := by decide +kernel
theorem dX7_image_51 : decode cX7_image 51 = .ok (.invokevirtual 335, 3) := by decide +kernel
theorem dX7_image_54 : decode cX7_image 54 = .ok (.aload_n 2, 1) := by decide +kernel
theorem dX7_image_55 : decode cX7_image 55 = .ok (.getfield 337, 3) := by decide +kernel
theorem dX7_image_58 : decode cX7_image 58 = .ok (.aload_n 0, 1) := by decide +kernel
theorem dX7_image_59 : decode cX7_image 59 = .ok (.getfield 28, 3) := by decide +kernel
theorem dX7_image_62 : decode cX7_image 62 = .ok (.invokevirtual 101, 3) := by decide +kernel
theorem dX7_image_65 : decode cX7_image 65 = .ok (.aload_n 2, 1) := by decide +kernel
theorem dX7_image_66 : decode cX7_image 66 = .ok (.getfield 338, 3) := by decide +kernel
theorem dX7_image_69 : decode cX7_image 69 = .ok (.aload_n 0, 1) := by decide +kernel
theorem dX7_image_70 : decode cX7_image 70 = .ok (.getfield 35, 3) := by decide +kernel
theorem dX7_image_73 : decode cX7_image 73 = .ok (.invokevirtual 320, 3) := by decide +kernel
theorem dX7_image_76 : decode cX7_image 76 = .ok (.iconst 1, 1) := by decide +kernel
theorem dX7_image_77 : decode cX7_image 77 = .ok (.ireturn, 1) := by decide +kernel
theorem dX7_again_0 : decode cX7_again 0 = .ok (.iload_n 1, 1) := by decide +kernel
theorem dX7_again_1 : decode cX7_again 1 = .ok (.ifCond .lt 24, 3) := by decide +kernel
theorem dX7_again_4 : decode cX7_again 4 = .ok (.iload_n 1, 1) := by decide +kernel
theorem dX7_again_5 : decode cX7_again 5 = .ok (.aload_n 0, 1) := by decide +kernel
theorem dX7_again_6 : decode cX7_again 6 = .ok (.getfield 66, 3) := by decide +kernel
theorem dX7_again_9 : decode cX7_again 9 = .ok (.arraylength, 1) := by decide +kernel
theorem dX7_again_10 : decode cX7_again 10 = .ok (.if_icmp .ge 15, 3) := by decide +kernel
theorem dX7_again_13 : decode cX7_again 13 = .ok (.aload_n 0, 1) := by decide +kernel
theorem dX7_again_14 : decode cX7_again 14 = .ok (.getfield 66, 3) := by decide +kernel
theorem dX7_again_17 : decode cX7_again 17 = .ok (.iload_n 1, 1) := by decide +kernel
theorem dX7_again_18 : decode cX7_again 18 = .ok (.aaload, 1) := by decide +kernel
theorem dX7_again_19 : decode cX7_again 19 = .ok (.getfield 328, 3) := by decide +kernel
theorem dX7_again_22 : decode cX7_again 22 = .ok (.ifCond .ne 5, 3) := by decide +kernel
theorem dX7_again_25 : decode cX7_again 25 = .ok (.iconst 0, 1) := by decide +kernel
theorem dX7_again_26 : decode cX7_again 26 = .ok (.ireturn, 1) := by decide +kernel
theorem dX7_again_27 : decode cX7_again 27 = .ok (.aload_n 0, 1) := by decide +kernel
theorem dX7_again_28 : decode cX7_again 28 = .ok (.getfield 66, 3) := by decide +kernel
theorem dX7_again_31 : decode cX7_again 31 = .ok (.iload_n 1, 1) := by decide +kernel
theorem dX7_again_32 : decode cX7_again 32 = .ok (.aaload, 1) := by decide +kernel
theorem dX7_again_33 : decode cX7_again 33 = .ok (.astore_n 2, 1) := by decide +kernel
theorem dX7_again_34 : decode cX7_again 34 = .ok (.aload_n 0, 1) := by decide +kernel
theorem dX7_again_35 : decode cX7_again 35 = .ok (.aload_n 2, 1) := by decide +kernel
theorem dX7_again_36 : decode cX7_again 36 = .ok (.getfield 332, 3) := by decide +kernel
theorem dX7_again_39 : decode cX7_again 39 = .ok (.putfield 71, 3) := by decide +kernel
theorem dX7_again_42 : decode cX7_again 42 = .ok (.aload_n 0, 1) := by decide +kernel
theorem dX7_again_43 : decode cX7_again 43 = .ok (.aload_n 2, 1) := by decide +kernel
theorem dX7_again_44 : decode cX7_again 44 = .ok (.getfield 333, 3) := by decide +kernel
theorem dX7_again_47 : decode cX7_again 47 = .ok (.putfield 75, 3) := by decide +kernel
theorem dX7_again_50 : decode cX7_again 50 = .ok (.aload_n 0, 1) := by decide +kernel
theorem dX7_again_51 : decode cX7_again 51 = .ok (.getfield 10, 3) := by decide +kernel
theorem dX7_again_54 : decode cX7_again 54 = .ok (.aload_n 2, 1) := by decide +kernel
theorem dX7_again_55 : decode cX7_again 55 = .ok (.getfield 334, 3) := by decide +kernel
theorem dX7_again_58 : decode cX7_again 58 = .ok (.invokevirtual 335, 3) := by decide +kernel
theorem dX7_again_61 : decode cX7_again 61 = .ok (.aload_n 0, 1) := by decide +kernel
theorem dX7_again_62 : decode cX7_again 62 = .ok (.getfield 28, 3) := by decide +kernel
theorem dX7_again_65 : decode cX7_again 65 = .ok (.aload_n 2, 1) := by decide +kernel
theorem dX7_again_66 : decode cX7_again 66 = .ok (.getfield 337, 3) := by decide +kernel
theorem dX7_again_69 : decode cX7_again 69 = .ok (.invokevirtual 101, 3) := by decide +kernel
theorem dX7_again_72 : decode cX7_again 72 = .ok (.aload_n 0, 1) := by decide +kernel
theorem dX7_again_73 : decode cX7_again 73 = .ok (.getfield 35, 3) := by decide +kernel
theorem dX7_again_76 : decode cX7_again 76 = .ok (.aload_n 2, 1) := by decide +kernel
theorem dX7_again_77 : decode cX7_again 77 = .ok (.getfield 338, 3) := by decide +kernel
theorem dX7_again_80 : decode cX7_again 80 = .ok (.invokevirtual 320, 3) := by decide +kernel
theorem dX7_again_83 : decode cX7_again 83 = .ok (.aload_n 0, 1) := by decide +kernel
theorem dX7_again_84 : decode cX7_again 84 = .ok (.getfield 60, 3) := by decide +kernel
theorem dX7_again_87 : decode cX7_again 87 = .ok (.iconst 0, 1) := by decide +kernel
theorem dX7_again_88 : decode cX7_again 88 = .ok (.putfield 108, 3) := by decide +kernel
theorem dX7_again_91 : decode cX7_again 91 = .ok (.aload_n 0, 1) := by decide +kernel
theorem dX7_again_92 : decode cX7_again 92 = .ok (.getfield 44, 3) := by decide +kernel
theorem dX7_again_95 : decode cX7_again 95 = .ok (.aload_n 0, 1) := by decide +kernel
theorem dX7_again_96 : decode cX7_again 96 = .ok (.getfield 28, 3) := by decide +kernel
theorem dX7_again_99 : decode cX7_again 99 = .ok (.getfield 111, 3) := by decide +kernel
theorem dX7_again_102 : decode cX7_again 102 = .ok (.invokevirtual 114, 3) := by decide +kernel
theorem dX7_again_105 : decode cX7_again 105 = .ok (.pop, 1) := by decide +kernel
theorem dX7_again_106 : decode cX7_again 106 = .ok (.iconst 1, 1) := by decide +kernel
theorem dX7_again_107 : decode cX7_again 107 = .ok (.ireturn, 1) := by decide +kernel
theorem dX7_isMinute_0 : decode cX7_isMinute 0 = .ok (.iload_n 0, 1) := by decide +kernel
theorem dX7_isMinute_1 : decode cX7_isMinute 1 = .ok (.ifCond .lt 14, 3) := by decide +kernel
theorem dX7_isMinute_4 : decode cX7_isMinute 4 = .ok (.iload_n 0, 1) := by decide +kernel
theorem dX7_isMinute_5 : decode cX7_isMinute 5 = .ok (.sipush 200, 3) := by decide +kernel
theorem dX7_isMinute_8 : decode cX7_isMinute 8 = .ok (.if_icmp .ge 7, 3) := by decide +kernel
theorem dX7_isMinute_11 : decode cX7_isMinute 11 = .ok (.iconst 1, 1) := by decide +kernel
theorem dX7_isMinute_12 : decode cX7_isMinute 12 = .ok (.goto 4, 3) := by decide +kernel
theorem dX7_isMinute_15 : decode cX7_isMinute 15 = .ok (.iconst 0, 1) := by decide +kernel
theorem dX7_isMinute_16 : decode cX7_isMinute 16 = .ok (.ireturn, 1) := by decide +kernel
theorem dX7_isFixed_0 : decode cX7_isFixed 0 = .ok (.aload_n 0, 1) := by decide +kernel
theorem dX7_isFixed_1 : decode cX7_isFixed 1 = .ok (.getfield 44, 3) := by decide +kernel
theorem dX7_isFixed_4 : decode cX7_isFixed 4 = .ok (.getfield 266, 3) := by decide +kernel
theorem dX7_isFixed_7 : decode cX7_isFixed 7 = .ok (.iload_n 1, 1) := by decide +kernel
theorem dX7_isFixed_8 : decode cX7_isFixed 8 = .ok (.iaload, 1) := by decide +kernel
theorem dX7_isFixed_9 : decode cX7_isFixed 9 = .ok (.iconst (-1), 1) := by decide +kernel
theorem dX7_isFixed_10 : decode cX7_isFixed 10 = .ok (.if_icmp .eq 26, 3) := by decide +kernel
theorem dX7_isFixed_13 : decode cX7_isFixed 13 = .ok (.aload_n 0, 1) := by decide +kernel
theorem dX7_isFixed_14 : decode cX7_isFixed 14 = .ok (.getfield 44, 3) := by decide +kernel
theorem dX7_isFixed_17 : decode cX7_isFixed 17 = .ok (.getfield 266, 3) := by decide +kernel
theorem dX7_isFixed_20 : decode cX7_isFixed 20 = .ok (.iload_n 1, 1) := by decide +kernel
theorem dX7_isFixed_21 : decode cX7_isFixed 21 = .ok (.iaload, 1) := by decide +kernel
theorem dX7_isFixed_22 : decode cX7_isFixed 22 = .ok (.aload_n 0, 1) := by decide +kernel
theorem dX7_isFixed_23 : decode cX7_isFixed 23 = .ok (.getfield 35, 3) := by decide +kernel
theorem dX7_isFixed_26 : decode cX7_isFixed 26 = .ok (.getfield 153, 3) := by decide +kernel
theorem dX7_isFixed_29 : decode cX7_isFixed 29 = .ok (.if_icmp .ge 7, 3) := by decide +kernel
theorem dX7_isFixed_32 : decode cX7_isFixed 32 = .ok (.iconst 1, 1) := by decide +kernel
theorem dX7_isFixed_33 : decode cX7_isFixed 33 = .ok (.goto 4, 3) := by decide +kernel
theorem dX7_isFixed_36 : decode cX7_isFixed 36 = .ok (.iconst 0, 1) := by decide +kernel
theorem dX7_isFixed_37 : decode cX7_isFixed 37 = .ok (.ireturn, 1) := by decide +kernel
theorem dX7_fixedInAll_0 : decode cX7_fixedInAll 0 = .ok (.iconst 0, 1) := by decide +kernel
theorem dX7_fixedInAll_1 : decode cX7_fixedInAll 1 = .ok (.istore_n 1, 1) := by decide +kernel
theorem dX7_fixedInAll_2 : decode cX7_fixedInAll 2 = .ok (.iconst 0, 1) := by decide +kernel
theorem dX7_fixedInAll_3 : decode cX7_fixedInAll 3 = .ok (.istore_n 2, 1) := by decide +kernel
theorem dX7_fixedInAll_4 : decode cX7_fixedInAll 4 = .ok (.iload_n 2, 1) := by decide +kernel
theorem dX7_fixedInAll_5 : decode cX7_fixedInAll 5 = .ok (.aload_n 0, 1) := by decide +kernel
theorem dX7_fixedInAll_6 : decode cX7_fixedInAll 6 = .ok (.getfield 28, 3) := by decide +kernel
theorem dX7_fixedInAll_9 : decode cX7_fixedInAll 9 = .ok (.getfield 118, 3) := by decide +kernel
theorem dX7_fixedInAll_12 : decode cX7_fixedInAll 12 = .ok (.if_icmp .ge 20, 3) := by decide +kernel
theorem dX7_fixedInAll_15 : decode cX7_fixedInAll 15 = .ok (.aload_n 0, 1) := by decide +kernel
theorem dX7_fixedInAll_16 : decode cX7_fixedInAll 16 = .ok (.iload_n 2, 1) := by decide +kernel
theorem dX7_fixedInAll_17 : decode cX7_fixedInAll 17 = .ok (.invokevirtual 145, 3) := by decide +kernel
theorem dX7_fixedInAll_20 : decode cX7_fixedInAll 20 = .ok (.ifCond .eq 6, 3) := by decide +kernel
theorem dX7_fixedInAll_23 : decode cX7_fixedInAll 23 = .ok (.iinc 1 1, 3) := by decide +kernel
theorem dX7_fixedInAll_26 : decode cX7_fixedInAll 26 = .ok (.iinc 2 1, 3) := by decide +kernel
theorem dX7_fixedInAll_29 : decode cX7_fixedInAll 29 = .ok (.goto (-25), 3) := by decide +kernel
theorem dX7_fixedInAll_32 : decode cX7_fixedInAll 32 = .ok (.iload_n 1, 1) := by decide +kernel
theorem dX7_fixedInAll_33 : decode cX7_fixedInAll 33 = .ok (.ireturn, 1) := by decide +kernel
theorem dX7_fixedAt_0 : decode cX7_fixedAt 0 = .ok (.iconst 0, 1) := by decide +kernel
theorem dX7_fixedAt_1 : decode cX7_fixedAt 1 = .ok (.istore_n 2, 1) := by decide +kernel
theorem dX7_fixedAt_2 : decode cX7_fixedAt 2 = .ok (.iconst 0, 1) := by decide +kernel
theorem dX7_fixedAt_3 : decode cX7_fixedAt 3 = .ok (.istore_n 3, 1) := by decide +kernel
theorem dX7_fixedAt_4 : decode cX7_fixedAt 4 = .ok (.iload_n 3, 1) := by decide +kernel
theorem dX7_fixedAt_5 : decode cX7_fixedAt 5 = .ok (.aload_n 0, 1) := by decide +kernel
theorem dX7_fixedAt_6 : decode cX7_fixedAt 6 = .ok (.getfield 28, 3) := by decide +kernel
theorem dX7_fixedAt_9 : decode cX7_fixedAt 9 = .ok (.getfield 118, 3) := by decide +kernel
theorem dX7_fixedAt_12 : decode cX7_fixedAt 12 = .ok (.if_icmp .ge 33, 3) := by decide +kernel
theorem dX7_fixedAt_15 : decode cX7_fixedAt 15 = .ok (.aload_n 0, 1) := by decide +kernel
theorem dX7_fixedAt_16 : decode cX7_fixedAt 16 = .ok (.getfield 35, 3) := by decide +kernel
theorem dX7_fixedAt_19 : decode cX7_fixedAt 19 = .ok (.getfield 260, 3) := by decide +kernel
theorem dX7_fixedAt_22 : decode cX7_fixedAt 22 = .ok (.iload_n 3, 1) := by decide +kernel
theorem dX7_fixedAt_23 : decode cX7_fixedAt 23 = .ok (.iaload, 1) := by decide +kernel
theorem dX7_fixedAt_24 : decode cX7_fixedAt 24 = .ok (.iload_n 1, 1) := by decide +kernel
theorem dX7_fixedAt_25 : decode cX7_fixedAt 25 = .ok (.if_icmp .ne 14, 3) := by decide +kernel
theorem dX7_fixedAt_28 : decode cX7_fixedAt 28 = .ok (.aload_n 0, 1) := by decide +kernel
theorem dX7_fixedAt_29 : decode cX7_fixedAt 29 = .ok (.iload_n 3, 1) := by decide +kernel
theorem dX7_fixedAt_30 : decode cX7_fixedAt 30 = .ok (.invokevirtual 145, 3) := by decide +kernel
theorem dX7_fixedAt_33 : decode cX7_fixedAt 33 = .ok (.ifCond .eq 6, 3) := by decide +kernel
theorem dX7_fixedAt_36 : decode cX7_fixedAt 36 = .ok (.iinc 2 1, 3) := by decide +kernel
theorem dX7_fixedAt_39 : decode cX7_fixedAt 39 = .ok (.iinc 3 1, 3) := by decide +kernel
theorem dX7_fixedAt_42 : decode cX7_fixedAt 42 = .ok (.goto (-38), 3) := by decide +kernel
theorem dX7_fixedAt_45 : decode cX7_fixedAt 45 = .ok (.iload_n 2, 1) := by decide +kernel
theorem dX7_fixedAt_46 : decode cX7_fixedAt 46 = .ok (.ireturn, 1) := by decide +kernel
theorem dX7_moveRefusal_0 : decode cX7_moveRefusal 0 = .ok (.aload_n 0, 1) := by decide +kernel
theorem dX7_moveRefusal_1 : decode cX7_moveRefusal 1 = .ok (.getfield 28, 3) := by decide +kernel
theorem dX7_moveRefusal_4 : decode cX7_moveRefusal 4 = .ok (.iload_n 1, 1) := by decide +kernel
theorem dX7_moveRefusal_5 : decode cX7_moveRefusal 5 = .ok (.invokevirtual 240, 3) := by decide +kernel
theorem dX7_moveRefusal_8 : decode cX7_moveRefusal 8 = .ok (.ifCond .eq 35, 3) := by decide +kernel
theorem dX7_moveRefusal_11 : decode cX7_moveRefusal 11 = .ok (.aload_n 0, 1) := by decide +kernel
theorem dX7_moveRefusal_12 : decode cX7_moveRefusal 12 = .ok (.getfield 28, 3) := by decide +kernel
theorem dX7_moveRefusal_15 : decode cX7_moveRefusal 15 = .ok (.iload_n 2, 1) := by decide +kernel
theorem dX7_moveRefusal_16 : decode cX7_moveRefusal 16 = .ok (.invokevirtual 210, 3) := by decide +kernel
theorem dX7_moveRefusal_19 : decode cX7_moveRefusal 19 = .ok (.ifCond .eq 24, 3) := by decide +kernel
theorem dX7_moveRefusal_22 : decode cX7_moveRefusal 22 = .ok (.aload_n 0, 1) := by decide +kernel
theorem dX7_moveRefusal_23 : decode cX7_moveRefusal 23 = .ok (.getfield 28, 3) := by decide +kernel
theorem dX7_moveRefusal_26 : decode cX7_moveRefusal 26 = .ok (.getfield 245, 3) := by decide +kernel
theorem dX7_moveRefusal_29 : decode cX7_moveRefusal 29 = .ok (.iload_n 1, 1) := by decide +kernel
theorem dX7_moveRefusal_30 : decode cX7_moveRefusal 30 = .ok (.iaload, 1) := by decide +kernel
theorem dX7_moveRefusal_31 : decode cX7_moveRefusal 31 = .ok (.aload_n 0, 1) := by decide +kernel
theorem dX7_moveRefusal_32 : decode cX7_moveRefusal 32 = .ok (.getfield 28, 3) := by decide +kernel
theorem dX7_moveRefusal_35 : decode cX7_moveRefusal 35 = .ok (.getfield 220, 3) := by decide +kernel
theorem dX7_moveRefusal_38 : decode cX7_moveRefusal 38 = .ok (.iload_n 2, 1) := by decide +kernel
theorem dX7_moveRefusal_39 : decode cX7_moveRefusal 39 = .ok (.iaload, 1) := by decide +kernel
theorem dX7_moveRefusal_40 : decode cX7_moveRefusal 40 = .ok (.if_icmp .eq 5, 3) := by decide +kernel
theorem dX7_moveRefusal_43 : decode cX7_moveRefusal 43 = .ok (.iconst (-1), 1) := by decide +kernel
theorem dX7_moveRefusal_44 : decode cX7_moveRefusal 44 = .ok (.ireturn, 1) := by decide +kernel
theorem dX7_moveRefusal_45 : decode cX7_moveRefusal 45 = .ok (.iload_n 3, 1) := by decide +kernel
theorem dX7_moveRefusal_46 : decode cX7_moveRefusal 46 = .ok (.ifCond .lt 29, 3) := by decide +kernel
theorem dX7_moveRefusal_49 : decode cX7_moveRefusal 49 = .ok (.iload_n 3, 1) := by decide +kernel
theorem dX7_moveRefusal_50 : decode cX7_moveRefusal 50 = .ok (.aload_n 0, 1) := by decide +kernel
theorem dX7_moveRefusal_51 : decode cX7_moveRefusal 51 = .ok (.getfield 35, 3) := by decide +kernel
theorem dX7_moveRefusal_54 : decode cX7_moveRefusal 54 = .ok (.iload_n 2, 1) := by decide +kernel
theorem dX7_moveRefusal_55 : decode cX7_moveRefusal 55 = .ok (.iload_n 1, 1) := by decide +kernel
theorem dX7_moveRefusal_56 : decode cX7_moveRefusal 56 = .ok (.invokevirtual 339, 3) := by decide +kernel
theorem dX7_moveRefusal_59 : decode cX7_moveRefusal 59 = .ok (.if_icmp .gt 16, 3) := by decide +kernel
theorem dX7_moveRefusal_62 : decode cX7_moveRefusal 62 = .ok (.aload_n 0, 1) := by decide +kernel
theorem dX7_moveRefusal_63 : decode cX7_moveRefusal 63 = .ok (.getfield 35, 3) := by decide +kernel
theorem dX7_moveRefusal_66 : decode cX7_moveRefusal 66 = .ok (.iload_n 1, 1) := by decide +kernel
theorem dX7_moveRefusal_67 : decode cX7_moveRefusal 67 = .ok (.iload_n 2, 1) := by decide +kernel
theorem dX7_moveRefusal_68 : decode cX7_moveRefusal 68 = .ok (.iload_n 3, 1) := by decide +kernel
theorem dX7_moveRefusal_69 : decode cX7_moveRefusal 69 = .ok (.invokevirtual 342, 3) := by decide +kernel
theorem dX7_moveRefusal_72 : decode cX7_moveRefusal 72 = .ok (.ifCond .eq 5, 3) := by decide +kernel
theorem dX7_moveRefusal_75 : decode cX7_moveRefusal 75 = .ok (.iconst (-1), 1) := by decide +kernel
theorem dX7_moveRefusal_76 : decode cX7_moveRefusal 76 = .ok (.ireturn, 1) := by decide +kernel
theorem dX7_moveRefusal_77 : decode cX7_moveRefusal 77 = .ok (.aload_n 0, 1) := by decide +kernel
theorem dX7_moveRefusal_78 : decode cX7_moveRefusal 78 = .ok (.iload_n 1, 1) := by decide +kernel
theorem dX7_moveRefusal_79 : decode cX7_moveRefusal 79 = .ok (.invokevirtual 145, 3) := by decide +kernel
theorem dX7_moveRefusal_82 : decode cX7_moveRefusal 82 = .ok (.ifCond .ne 12, 3) := by decide +kernel
theorem dX7_moveRefusal_85 : decode cX7_moveRefusal 85 = .ok (.iload_n 3, 1) := by decide +kernel
theorem dX7_moveRefusal_86 : decode cX7_moveRefusal 86 = .ok (.aload_n 0, 1) := by decide +kernel
theorem dX7_moveRefusal_87 : decode cX7_moveRefusal 87 = .ok (.iload_n 2, 1) := by decide +kernel
theorem dX7_moveRefusal_88 : decode cX7_moveRefusal 88 = .ok (.invokevirtual 346, 3) := by decide +kernel
theorem dX7_moveRefusal_91 : decode cX7_moveRefusal 91 = .ok (.if_icmp .ge 8, 3) := by decide +kernel
theorem dX7_moveRefusal_94 : decode cX7_moveRefusal 94 = .ok (.bipush (-2), 2) := by decide +kernel
theorem dX7_moveRefusal_96 : decode cX7_moveRefusal 96 = .ok (.goto 4, 3) := by decide +kernel
theorem dX7_moveRefusal_99 : decode cX7_moveRefusal 99 = .ok (.iconst 0, 1) := by decide +kernel
theorem dX7_moveRefusal_100 : decode cX7_moveRefusal 100 = .ok (.ireturn, 1) := by decide +kernel
theorem dX7_swapRefusal_0 : decode cX7_swapRefusal 0 = .ok (.aload_n 0, 1) := by decide +kernel
theorem dX7_swapRefusal_1 : decode cX7_swapRefusal 1 = .ok (.getfield 28, 3) := by decide +kernel
theorem dX7_swapRefusal_4 : decode cX7_swapRefusal 4 = .ok (.iload_n 1, 1) := by decide +kernel
theorem dX7_swapRefusal_5 : decode cX7_swapRefusal 5 = .ok (.invokevirtual 240, 3) := by decide +kernel
theorem dX7_swapRefusal_8 : decode cX7_swapRefusal 8 = .ok (.ifCond .eq 19, 3) := by decide +kernel
theorem dX7_swapRefusal_11 : decode cX7_swapRefusal 11 = .ok (.aload_n 0, 1) := by decide +kernel
theorem dX7_swapRefusal_12 : decode cX7_swapRefusal 12 = .ok (.getfield 28, 3) := by decide +kernel
theorem dX7_swapRefusal_15 : decode cX7_swapRefusal 15 = .ok (.iload_n 2, 1) := by decide +kernel
theorem dX7_swapRefusal_16 : decode cX7_swapRefusal 16 = .ok (.invokevirtual 240, 3) := by decide +kernel
theorem dX7_swapRefusal_19 : decode cX7_swapRefusal 19 = .ok (.ifCond .eq 8, 3) := by decide +kernel
theorem dX7_swapRefusal_22 : decode cX7_swapRefusal 22 = .ok (.iload_n 1, 1) := by decide +kernel
theorem dX7_swapRefusal_23 : decode cX7_swapRefusal 23 = .ok (.iload_n 2, 1) := by decide +kernel
theorem dX7_swapRefusal_24 : decode cX7_swapRefusal 24 = .ok (.if_icmp .ne 5, 3) := by decide +kernel
theorem dX7_swapRefusal_27 : decode cX7_swapRefusal 27 = .ok (.iconst (-1), 1) := by decide +kernel
theorem dX7_swapRefusal_28 : decode cX7_swapRefusal 28 = .ok (.ireturn, 1) := by decide +kernel
theorem dX7_swapRefusal_29 : decode cX7_swapRefusal 29 = .ok (.aload_n 0, 1) := by decide +kernel
theorem dX7_swapRefusal_30 : decode cX7_swapRefusal 30 = .ok (.getfield 28, 3) := by decide +kernel
theorem dX7_swapRefusal_33 : decode cX7_swapRefusal 33 = .ok (.getfield 245, 3) := by decide +kernel
theorem dX7_swapRefusal_36 : decode cX7_swapRefusal 36 = .ok (.iload_n 1, 1) := by decide +kernel
theorem dX7_swapRefusal_37 : decode cX7_swapRefusal 37 = .ok (.iaload, 1) := by decide +kernel
theorem dX7_swapRefusal_38 : decode cX7_swapRefusal 38 = .ok (.aload_n 0, 1) := by decide +kernel
theorem dX7_swapRefusal_39 : decode cX7_swapRefusal 39 = .ok (.getfield 28, 3) := by decide +kernel
theorem dX7_swapRefusal_42 : decode cX7_swapRefusal 42 = .ok (.getfield 245, 3) := by decide +kernel
theorem dX7_swapRefusal_45 : decode cX7_swapRefusal 45 = .ok (.iload_n 2, 1) := by decide +kernel
theorem dX7_swapRefusal_46 : decode cX7_swapRefusal 46 = .ok (.iaload, 1) := by decide +kernel
theorem dX7_swapRefusal_47 : decode cX7_swapRefusal 47 = .ok (.if_icmp .ne 25, 3) := by decide +kernel
theorem dX7_swapRefusal_50 : decode cX7_swapRefusal 50 = .ok (.aload_n 0, 1) := by decide +kernel
theorem dX7_swapRefusal_51 : decode cX7_swapRefusal 51 = .ok (.getfield 35, 3) := by decide +kernel
theorem dX7_swapRefusal_54 : decode cX7_swapRefusal 54 = .ok (.iload_n 1, 1) := by decide +kernel
theorem dX7_swapRefusal_55 : decode cX7_swapRefusal 55 = .ok (.invokevirtual 349, 3) := by decide +kernel
theorem dX7_swapRefusal_58 : decode cX7_swapRefusal 58 = .ok (.ifCond .eq 14, 3) := by decide +kernel
theorem dX7_swapRefusal_61 : decode cX7_swapRefusal 61 = .ok (.aload_n 0, 1) := by decide +kernel
theorem dX7_swapRefusal_62 : decode cX7_swapRefusal 62 = .ok (.getfield 35, 3) := by decide +kernel
theorem dX7_swapRefusal_65 : decode cX7_swapRefusal 65 = .ok (.iload_n 2, 1) := by decide +kernel
theorem dX7_swapRefusal_66 : decode cX7_swapRefusal 66 = .ok (.invokevirtual 349, 3) := by decide +kernel
theorem dX7_swapRefusal_69 : decode cX7_swapRefusal 69 = .ok (.ifCond .ne 5, 3) := by decide +kernel
theorem dX7_swapRefusal_72 : decode cX7_swapRefusal 72 = .ok (.iconst (-1), 1) := by decide +kernel
theorem dX7_swapRefusal_73 : decode cX7_swapRefusal 73 = .ok (.ireturn, 1) := by decide +kernel
theorem dX7_swapRefusal_74 : decode cX7_swapRefusal 74 = .ok (.aload_n 0, 1) := by decide +kernel
theorem dX7_swapRefusal_75 : decode cX7_swapRefusal 75 = .ok (.iload_n 1, 1) := by decide +kernel
theorem dX7_swapRefusal_76 : decode cX7_swapRefusal 76 = .ok (.invokevirtual 145, 3) := by decide +kernel
theorem dX7_swapRefusal_79 : decode cX7_swapRefusal 79 = .ok (.ifCond .ne 11, 3) := by decide +kernel
theorem dX7_swapRefusal_82 : decode cX7_swapRefusal 82 = .ok (.aload_n 0, 1) := by decide +kernel
theorem dX7_swapRefusal_83 : decode cX7_swapRefusal 83 = .ok (.iload_n 2, 1) := by decide +kernel
theorem dX7_swapRefusal_84 : decode cX7_swapRefusal 84 = .ok (.invokevirtual 145, 3) := by decide +kernel
theorem dX7_swapRefusal_87 : decode cX7_swapRefusal 87 = .ok (.ifCond .eq 8, 3) := by decide +kernel
theorem dX7_swapRefusal_90 : decode cX7_swapRefusal 90 = .ok (.bipush (-2), 2) := by decide +kernel
theorem dX7_swapRefusal_92 : decode cX7_swapRefusal 92 = .ok (.goto 4, 3) := by decide +kernel
theorem dX7_swapRefusal_95 : decode cX7_swapRefusal 95 = .ok (.iconst 0, 1) := by decide +kernel
theorem dX7_swapRefusal_96 : decode cX7_swapRefusal 96 = .ok (.ireturn, 1) := by decide +kernel
theorem dX7_canBeDelayed_0 : decode cX7_canBeDelayed 0 = .ok (.aload_n 0, 1) := by decide +kernel
theorem dX7_canBeDelayed_1 : decode cX7_canBeDelayed 1 = .ok (.getfield 28, 3) := by decide +kernel
theorem dX7_canBeDelayed_4 : decode cX7_canBeDelayed 4 = .ok (.iload_n 1, 1) := by decide +kernel
theorem dX7_canBeDelayed_5 : decode cX7_canBeDelayed 5 = .ok (.invokevirtual 240, 3) := by decide +kernel
theorem dX7_canBeDelayed_8 : decode cX7_canBeDelayed 8 = .ok (.ifCond .eq 34, 3) := by decide +kernel
theorem dX7_canBeDelayed_11 : decode cX7_canBeDelayed 11 = .ok (.iload_n 2, 1) := by decide +kernel
theorem dX7_canBeDelayed_12 : decode cX7_canBeDelayed 12 = .ok (.iconst 1, 1) := by decide +kernel
theorem dX7_canBeDelayed_13 : decode cX7_canBeDelayed 13 = .ok (.if_icmp .lt 29, 3) := by decide +kernel
theorem dX7_canBeDelayed_16 : decode cX7_canBeDelayed 16 = .ok (.iload_n 2, 1) := by decide +kernel
theorem dX7_canBeDelayed_17 : decode cX7_canBeDelayed 17 = .ok (.bipush 99, 2) := by decide +kernel
theorem dX7_canBeDelayed_19 : decode cX7_canBeDelayed 19 = .ok (.if_icmp .gt 23, 3) := by decide +kernel
theorem dX7_canBeDelayed_22 : decode cX7_canBeDelayed 22 = .ok (.aload_n 0, 1) := by decide +kernel
theorem dX7_canBeDelayed_23 : decode cX7_canBeDelayed 23 = .ok (.getfield 35, 3) := by decide +kernel
theorem dX7_canBeDelayed_26 : decode cX7_canBeDelayed 26 = .ok (.getfield 149, 3) := by decide +kernel
theorem dX7_canBeDelayed_29 : decode cX7_canBeDelayed 29 = .ok (.iload_n 1, 1) := by decide +kernel
theorem dX7_canBeDelayed_30 : decode cX7_canBeDelayed 30 = .ok (.iaload, 1) := by decide +kernel
theorem dX7_canBeDelayed_31 : decode cX7_canBeDelayed 31 = .ok (.iload_n 2, 1) := by decide +kernel
theorem dX7_canBeDelayed_32 : decode cX7_canBeDelayed 32 = .ok (.iadd, 1) := by decide +kernel
theorem dX7_canBeDelayed_33 : decode cX7_canBeDelayed 33 = .ok (.bipush 99, 2) := by decide +kernel
theorem dX7_canBeDelayed_35 : decode cX7_canBeDelayed 35 = .ok (.if_icmp .gt 7, 3) := by decide +kernel
theorem dX7_canBeDelayed_38 : decode cX7_canBeDelayed 38 = .ok (.iconst 1, 1) := by decide +kernel
theorem dX7_canBeDelayed_39 : decode cX7_canBeDelayed 39 = .ok (.goto 4, 3) := by decide +kernel
theorem dX7_canBeDelayed_42 : decode cX7_canBeDelayed 42 = .ok (.iconst 0, 1) := by decide +kernel
theorem dX7_canBeDelayed_43 : decode cX7_canBeDelayed 43 = .ok (.ireturn, 1) := by decide +kernel
theorem dX7_movesThatCanBe_0 : decode cX7_movesThatCanBe 0 = .ok (.iconst 0, 1) := by decide +kernel
theorem dX7_movesThatCanBe_1 : decode cX7_movesThatCanBe 1 = .ok (.istore_n 1, 1) := by decide +kernel
theorem dX7_movesThatCanBe_2 : decode cX7_movesThatCanBe 2 = .ok (.iconst 0, 1) := by decide +kernel
theorem dX7_movesThatCanBe_3 : decode cX7_movesThatCanBe 3 = .ok (.istore_n 2, 1) := by decide +kernel
theorem dX7_movesThatCanBe_4 : decode cX7_movesThatCanBe 4 = .ok (.iload_n 2, 1) := by decide +kernel
theorem dX7_movesThatCanBe_5 : decode cX7_movesThatCanBe 5 = .ok (.aload_n 0, 1) := by decide +kernel
theorem dX7_movesThatCanBe_6 : decode cX7_movesThatCanBe 6 = .ok (.getfield 28, 3) := by decide +kernel
theorem dX7_movesThatCanBe_9 : decode cX7_movesThatCanBe 9 = .ok (.getfield 118, 3) := by decide +kernel
theorem dX7_movesThatCanBe_12 : decode cX7_movesThatCanBe 12 = .ok (.if_icmp .ge 58, 3) := by decide +kernel
theorem dX7_movesThatCanBe_15 : decode cX7_movesThatCanBe 15 = .ok (.iconst 0, 1) := by decide +kernel
theorem dX7_movesThatCanBe_16 : decode cX7_movesThatCanBe 16 = .ok (.istore_n 3, 1) := by decide +kernel
theorem dX7_movesThatCanBe_17 : decode cX7_movesThatCanBe 17 = .ok (.iload_n 3, 1) := by decide +kernel
theorem dX7_movesThatCanBe_18 : decode cX7_movesThatCanBe 18 = .ok (.aload_n 0, 1) := by decide +kernel
theorem dX7_movesThatCanBe_19 : decode cX7_movesThatCanBe 19 = .ok (.getfield 28, 3) := by decide +kernel
theorem dX7_movesThatCanBe_22 : decode cX7_movesThatCanBe 22 = .ok (.getfield 168, 3) := by decide +kernel
theorem dX7_movesThatCanBe_25 : decode cX7_movesThatCanBe 25 = .ok (.if_icmp .ge 39, 3) := by decide +kernel
theorem dX7_movesThatCanBe_28 : decode cX7_movesThatCanBe 28 = .ok (.iconst 0, 1) := by decide +kernel
theorem dX7_movesThatCanBe_29 : decode cX7_movesThatCanBe 29 = .ok (.istore 4, 2) := by decide +kernel
theorem dX7_movesThatCanBe_31 : decode cX7_movesThatCanBe 31 = .ok (.iload 4, 2) := by decide +kernel
theorem dX7_movesThatCanBe_33 : decode cX7_movesThatCanBe 33 = .ok (.bipush 8, 2) := by decide +kernel
theorem dX7_movesThatCanBe_35 : decode cX7_movesThatCanBe 35 = .ok (.if_icmp .ge 23, 3) := by decide +kernel
theorem dX7_movesThatCanBe_38 : decode cX7_movesThatCanBe 38 = .ok (.aload_n 0, 1) := by decide +kernel
theorem dX7_movesThatCanBe_39 : decode cX7_movesThatCanBe 39 = .ok (.iload_n 2, 1) := by decide +kernel
theorem dX7_movesThatCanBe_40 : decode cX7_movesThatCanBe 40 = .ok (.iload_n 3, 1) := by decide +kernel
theorem dX7_movesThatCanBe_41 : decode cX7_movesThatCanBe 41 = .ok (.iload 4, 2) := by decide +kernel
theorem dX7_movesThatCanBe_43 : decode cX7_movesThatCanBe 43 = .ok (.invokevirtual 121, 3) := by decide +kernel
theorem dX7_movesThatCanBe_46 : decode cX7_movesThatCanBe 46 = .ok (.ifCond .ne 6, 3) := by decide +kernel
theorem dX7_movesThatCanBe_49 : decode cX7_movesThatCanBe 49 = .ok (.iinc 1 1, 3) := by decide +kernel
theorem dX7_movesThatCanBe_52 : decode cX7_movesThatCanBe 52 = .ok (.iinc 4 1, 3) := by decide +kernel
theorem dX7_movesThatCanBe_55 : decode cX7_movesThatCanBe 55 = .ok (.goto (-24), 3) := by decide +kernel
theorem dX7_movesThatCanBe_58 : decode cX7_movesThatCanBe 58 = .ok (.iinc 3 1, 3) := by decide +kernel
theorem dX7_movesThatCanBe_61 : decode cX7_movesThatCanBe 61 = .ok (.goto (-44), 3) := by decide +kernel
theorem dX7_movesThatCanBe_64 : decode cX7_movesThatCanBe 64 = .ok (.iinc 2 1, 3) := by decide +kernel
theorem dX7_movesThatCanBe_67 : decode cX7_movesThatCanBe 67 = .ok (.goto (-63), 3) := by decide +kernel
theorem dX7_movesThatCanBe_70 : decode cX7_movesThatCanBe 70 = .ok (.iload_n 1, 1) := by decide +kernel
theorem dX7_movesThatCanBe_71 : decode cX7_movesThatCanBe 71 = .ok (.ireturn, 1) := by decide +kernel
theorem dX7_swapsThatCanBe_0 : decode cX7_swapsThatCanBe 0 = .ok (.iconst 0, 1) := by decide +kernel
theorem dX7_swapsThatCanBe_1 : decode cX7_swapsThatCanBe 1 = .ok (.istore_n 1, 1) := by decide +kernel
theorem dX7_swapsThatCanBe_2 : decode cX7_swapsThatCanBe 2 = .ok (.iconst 0, 1) := by decide +kernel
theorem dX7_swapsThatCanBe_3 : decode cX7_swapsThatCanBe 3 = .ok (.istore_n 2, 1) := by decide +kernel
theorem dX7_swapsThatCanBe_4 : decode cX7_swapsThatCanBe 4 = .ok (.iload_n 2, 1) := by decide +kernel
theorem dX7_swapsThatCanBe_5 : decode cX7_swapsThatCanBe 5 = .ok (.aload_n 0, 1) := by decide +kernel
theorem dX7_swapsThatCanBe_6 : decode cX7_swapsThatCanBe 6 = .ok (.getfield 28, 3) := by decide +kernel
theorem dX7_swapsThatCanBe_9 : decode cX7_swapsThatCanBe 9 = .ok (.getfield 118, 3) := by decide +kernel
theorem dX7_swapsThatCanBe_12 : decode cX7_swapsThatCanBe 12 = .ok (.if_icmp .ge 42, 3) := by decide +kernel
theorem dX7_swapsThatCanBe_15 : decode cX7_swapsThatCanBe 15 = .ok (.iload_n 2, 1) := by decide +kernel
theorem dX7_swapsThatCanBe_16 : decode cX7_swapsThatCanBe 16 = .ok (.iconst 1, 1) := by decide +kernel
theorem dX7_swapsThatCanBe_17 : decode cX7_swapsThatCanBe 17 = .ok (.iadd, 1) := by decide +kernel
theorem dX7_swapsThatCanBe_18 : decode cX7_swapsThatCanBe 18 = .ok (.istore_n 3, 1) := by decide +kernel
theorem dX7_swapsThatCanBe_19 : decode cX7_swapsThatCanBe 19 = .ok (.iload_n 3, 1) := by decide +kernel
theorem dX7_swapsThatCanBe_20 : decode cX7_swapsThatCanBe 20 = .ok (.aload_n 0, 1) := by decide +kernel
theorem dX7_swapsThatCanBe_21 : decode cX7_swapsThatCanBe 21 = .ok (.getfield 28, 3) := by decide +kernel
theorem dX7_swapsThatCanBe_24 : decode cX7_swapsThatCanBe 24 = .ok (.getfield 118, 3) := by decide +kernel
theorem dX7_swapsThatCanBe_27 : decode cX7_swapsThatCanBe 27 = .ok (.if_icmp .ge 21, 3) := by decide +kernel
theorem dX7_swapsThatCanBe_30 : decode cX7_swapsThatCanBe 30 = .ok (.aload_n 0, 1) := by decide +kernel
theorem dX7_swapsThatCanBe_31 : decode cX7_swapsThatCanBe 31 = .ok (.iload_n 2, 1) := by decide +kernel
theorem dX7_swapsThatCanBe_32 : decode cX7_swapsThatCanBe 32 = .ok (.iload_n 3, 1) := by decide +kernel
theorem dX7_swapsThatCanBe_33 : decode cX7_swapsThatCanBe 33 = .ok (.invokevirtual 133, 3) := by decide +kernel
theorem dX7_swapsThatCanBe_36 : decode cX7_swapsThatCanBe 36 = .ok (.ifCond .ne 6, 3) := by decide +kernel
theorem dX7_swapsThatCanBe_39 : decode cX7_swapsThatCanBe 39 = .ok (.iinc 1 1, 3) := by decide +kernel
theorem dX7_swapsThatCanBe_42 : decode cX7_swapsThatCanBe 42 = .ok (.iinc 3 1, 3) := by decide +kernel
theorem dX7_swapsThatCanBe_45 : decode cX7_swapsThatCanBe 45 = .ok (.goto (-26), 3) := by decide +kernel
theorem dX7_swapsThatCanBe_48 : decode cX7_swapsThatCanBe 48 = .ok (.iinc 2 1, 3) := by decide +kernel
theorem dX7_swapsThatCanBe_51 : decode cX7_swapsThatCanBe 51 = .ok (.goto (-47), 3) := by decide +kernel
theorem dX7_swapsThatCanBe_54 : decode cX7_swapsThatCanBe 54 = .ok (.iload_n 1, 1) := by decide +kernel
theorem dX7_swapsThatCanBe_55 : decode cX7_swapsThatCanBe 55 = .ok (.ireturn, 1) := by decide +kernel
theorem dX7_findStep_0 : decode cX7_findStep 0 = .ok (.aload_n 0, 1) := by decide +kernel
theorem dX7_findStep_1 : decode cX7_findStep 1 = .ok (.aload_n 0, 1) := by decide +kernel
theorem dX7_findStep_2 : decode cX7_findStep 2 = .ok (.aload_n 0, 1) := by decide +kernel
theorem dX7_findStep_3 : decode cX7_findStep 3 = .ok (.getfield 44, 3) := by decide +kernel
theorem dX7_findStep_6 : decode cX7_findStep 6 = .ok (.getfield 177, 3) := by decide +kernel
theorem dX7_findStep_9 : decode cX7_findStep 9 = .ok (.invokevirtual 352, 3) := by decide +kernel
theorem dX7_findStep_12 : decode cX7_findStep 12 = .ok (.invokevirtual 355, 3) := by decide +kernel
theorem dX7_findStep_15 : decode cX7_findStep 15 = .ok (.aload_n 0, 1) := by decide +kernel
theorem dX7_findStep_16 : decode cX7_findStep 16 = .ok (.getfield 44, 3) := by decide +kernel
theorem dX7_findStep_19 : decode cX7_findStep 19 = .ok (.getfield 177, 3) := by decide +kernel
theorem dX7_findStep_22 : decode cX7_findStep 22 = .ok (.if_icmp .ge 7, 3) := by decide +kernel
theorem dX7_findStep_25 : decode cX7_findStep 25 = .ok (.iconst 1, 1) := by decide +kernel
theorem dX7_findStep_26 : decode cX7_findStep 26 = .ok (.goto 4, 3) := by decide +kernel
theorem dX7_findStep_29 : decode cX7_findStep 29 = .ok (.iconst 0, 1) := by decide +kernel
theorem dX7_findStep_30 : decode cX7_findStep 30 = .ok (.ireturn, 1) := by decide +kernel
theorem dX7_tryMoves_0 : decode cX7_tryMoves 0 = .ok (.iload_n 1, 1) := by decide +kernel
theorem dX7_tryMoves_1 : decode cX7_tryMoves 1 = .ok (.istore_n 2, 1) := by decide +kernel
theorem dX7_tryMoves_2 : decode cX7_tryMoves 2 = .ok (.iconst 0, 1) := by decide +kernel
theorem dX7_tryMoves_3 : decode cX7_tryMoves 3 = .ok (.istore_n 3, 1) := by decide +kernel
theorem dX7_tryMoves_4 : decode cX7_tryMoves 4 = .ok (.iload_n 3, 1) := by decide +kernel
theorem dX7_tryMoves_5 : decode cX7_tryMoves 5 = .ok (.aload_n 0, 1) := by decide +kernel
theorem dX7_tryMoves_6 : decode cX7_tryMoves 6 = .ok (.getfield 28, 3) := by decide +kernel
theorem dX7_tryMoves_9 : decode cX7_tryMoves 9 = .ok (.getfield 118, 3) := by decide +kernel
theorem dX7_tryMoves_12 : decode cX7_tryMoves 12 = .ok (.if_icmp .ge 87, 3) := by decide +kernel
theorem dX7_tryMoves_15 : decode cX7_tryMoves 15 = .ok (.iconst 0, 1) := by decide +kernel
theorem dX7_tryMoves_16 : decode cX7_tryMoves 16 = .ok (.istore 4, 2) := by decide +kernel
theorem dX7_tryMoves_18 : decode cX7_tryMoves 18 = .ok (.iload 4, 2) := by decide +kernel
theorem dX7_tryMoves_20 : decode cX7_tryMoves 20 = .ok (.aload_n 0, 1) := by decide +kernel
theorem dX7_tryMoves_21 : decode cX7_tryMoves 21 = .ok (.getfield 28, 3) := by decide +kernel
theorem dX7_tryMoves_24 : decode cX7_tryMoves 24 = .ok (.getfield 168, 3) := by decide +kernel
theorem dX7_tryMoves_27 : decode cX7_tryMoves 27 = .ok (.if_icmp .ge 66, 3) := by decide +kernel
theorem dX7_tryMoves_30 : decode cX7_tryMoves 30 = .ok (.iconst 0, 1) := by decide +kernel
theorem dX7_tryMoves_31 : decode cX7_tryMoves 31 = .ok (.istore 5, 2) := by decide +kernel
theorem dX7_tryMoves_33 : decode cX7_tryMoves 33 = .ok (.iload 5, 2) := by decide +kernel
theorem dX7_tryMoves_35 : decode cX7_tryMoves 35 = .ok (.bipush 8, 2) := by decide +kernel
theorem dX7_tryMoves_37 : decode cX7_tryMoves 37 = .ok (.if_icmp .ge 50, 3) := by decide +kernel
theorem dX7_tryMoves_40 : decode cX7_tryMoves 40 = .ok (.aload_n 0, 1) := by decide +kernel
theorem dX7_tryMoves_41 : decode cX7_tryMoves 41 = .ok (.iload_n 3, 1) := by decide +kernel
theorem dX7_tryMoves_42 : decode cX7_tryMoves 42 = .ok (.iload 4, 2) := by decide +kernel
theorem dX7_tryMoves_44 : decode cX7_tryMoves 44 = .ok (.iload 5, 2) := by decide +kernel
theorem dX7_tryMoves_46 : decode cX7_tryMoves 46 = .ok (.invokevirtual 121, 3) := by decide +kernel
theorem dX7_tryMoves_49 : decode cX7_tryMoves 49 = .ok (.ifCond .ne 32, 3) := by decide +kernel
theorem dX7_tryMoves_52 : decode cX7_tryMoves 52 = .ok (.aload_n 0, 1) := by decide +kernel
theorem dX7_tryMoves_53 : decode cX7_tryMoves 53 = .ok (.getfield 48, 3) := by decide +kernel
theorem dX7_tryMoves_56 : decode cX7_tryMoves 56 = .ok (.aload_n 0, 1) := by decide +kernel
theorem dX7_tryMoves_57 : decode cX7_tryMoves 57 = .ok (.getfield 35, 3) := by decide +kernel
theorem dX7_tryMoves_60 : decode cX7_tryMoves 60 = .ok (.invokevirtual 320, 3) := by decide +kernel
theorem dX7_tryMoves_63 : decode cX7_tryMoves 63 = .ok (.aload_n 0, 1) := by decide +kernel
theorem dX7_tryMoves_64 : decode cX7_tryMoves 64 = .ok (.getfield 48, 3) := by decide +kernel
theorem dX7_tryMoves_67 : decode cX7_tryMoves 67 = .ok (.iload_n 3, 1) := by decide +kernel
theorem dX7_tryMoves_68 : decode cX7_tryMoves 68 = .ok (.iload 4, 2) := by decide +kernel
theorem dX7_tryMoves_70 : decode cX7_tryMoves 70 = .ok (.iload 5, 2) := by decide +kernel
theorem dX7_tryMoves_72 : decode cX7_tryMoves 72 = .ok (.invokevirtual 129, 3) := by decide +kernel
theorem dX7_tryMoves_75 : decode cX7_tryMoves 75 = .ok (.aload_n 0, 1) := by decide +kernel
theorem dX7_tryMoves_76 : decode cX7_tryMoves 76 = .ok (.iload_n 2, 1) := by decide +kernel
theorem dX7_tryMoves_77 : decode cX7_tryMoves 77 = .ok (.invokevirtual 358, 3) := by decide +kernel
theorem dX7_tryMoves_80 : decode cX7_tryMoves 80 = .ok (.istore_n 2, 1) := by decide +kernel
theorem dX7_tryMoves_81 : decode cX7_tryMoves 81 = .ok (.iinc 5 1, 3) := by decide +kernel
theorem dX7_tryMoves_84 : decode cX7_tryMoves 84 = .ok (.goto (-51), 3) := by decide +kernel
theorem dX7_tryMoves_87 : decode cX7_tryMoves 87 = .ok (.iinc 4 1, 3) := by decide +kernel
theorem dX7_tryMoves_90 : decode cX7_tryMoves 90 = .ok (.goto (-72), 3) := by decide +kernel
theorem dX7_tryMoves_93 : decode cX7_tryMoves 93 = .ok (.iinc 3 1, 3) := by decide +kernel
theorem dX7_tryMoves_96 : decode cX7_tryMoves 96 = .ok (.goto (-92), 3) := by decide +kernel
theorem dX7_tryMoves_99 : decode cX7_tryMoves 99 = .ok (.iload_n 2, 1) := by decide +kernel
theorem dX7_tryMoves_100 : decode cX7_tryMoves 100 = .ok (.ireturn, 1) := by decide +kernel
theorem dX7_trySwaps_0 : decode cX7_trySwaps 0 = .ok (.iload_n 1, 1) := by decide +kernel
theorem dX7_trySwaps_1 : decode cX7_trySwaps 1 = .ok (.istore_n 2, 1) := by decide +kernel
theorem dX7_trySwaps_2 : decode cX7_trySwaps 2 = .ok (.iconst 0, 1) := by decide +kernel
theorem dX7_trySwaps_3 : decode cX7_trySwaps 3 = .ok (.istore_n 3, 1) := by decide +kernel
theorem dX7_trySwaps_4 : decode cX7_trySwaps 4 = .ok (.iload_n 3, 1) := by decide +kernel
theorem dX7_trySwaps_5 : decode cX7_trySwaps 5 = .ok (.aload_n 0, 1) := by decide +kernel
theorem dX7_trySwaps_6 : decode cX7_trySwaps 6 = .ok (.getfield 28, 3) := by decide +kernel
theorem dX7_trySwaps_9 : decode cX7_trySwaps 9 = .ok (.getfield 118, 3) := by decide +kernel
theorem dX7_trySwaps_12 : decode cX7_trySwaps 12 = .ok (.if_icmp .ge 69, 3) := by decide +kernel
theorem dX7_trySwaps_15 : decode cX7_trySwaps 15 = .ok (.iload_n 3, 1) := by decide +kernel
theorem dX7_trySwaps_16 : decode cX7_trySwaps 16 = .ok (.iconst 1, 1) := by decide +kernel
theorem dX7_trySwaps_17 : decode cX7_trySwaps 17 = .ok (.iadd, 1) := by decide +kernel
theorem dX7_trySwaps_18 : decode cX7_trySwaps 18 = .ok (.istore 4, 2) := by decide +kernel
theorem dX7_trySwaps_20 : decode cX7_trySwaps 20 = .ok (.iload 4, 2) := by decide +kernel
theorem dX7_trySwaps_22 : decode cX7_trySwaps 22 = .ok (.aload_n 0, 1) := by decide +kernel
theorem dX7_trySwaps_23 : decode cX7_trySwaps 23 = .ok (.getfield 28, 3) := by decide +kernel
theorem dX7_trySwaps_26 : decode cX7_trySwaps 26 = .ok (.getfield 118, 3) := by decide +kernel
theorem dX7_trySwaps_29 : decode cX7_trySwaps 29 = .ok (.if_icmp .ge 46, 3) := by decide +kernel
theorem dX7_trySwaps_32 : decode cX7_trySwaps 32 = .ok (.aload_n 0, 1) := by decide +kernel
theorem dX7_trySwaps_33 : decode cX7_trySwaps 33 = .ok (.iload_n 3, 1) := by decide +kernel
theorem dX7_trySwaps_34 : decode cX7_trySwaps 34 = .ok (.iload 4, 2) := by decide +kernel
theorem dX7_trySwaps_36 : decode cX7_trySwaps 36 = .ok (.invokevirtual 133, 3) := by decide +kernel
theorem dX7_trySwaps_39 : decode cX7_trySwaps 39 = .ok (.ifCond .ne 30, 3) := by decide +kernel
theorem dX7_trySwaps_42 : decode cX7_trySwaps 42 = .ok (.aload_n 0, 1) := by decide +kernel
theorem dX7_trySwaps_43 : decode cX7_trySwaps 43 = .ok (.getfield 48, 3) := by decide +kernel
theorem dX7_trySwaps_46 : decode cX7_trySwaps 46 = .ok (.aload_n 0, 1) := by decide +kernel
theorem dX7_trySwaps_47 : decode cX7_trySwaps 47 = .ok (.getfield 35, 3) := by decide +kernel
theorem dX7_trySwaps_50 : decode cX7_trySwaps 50 = .ok (.invokevirtual 320, 3) := by decide +kernel
theorem dX7_trySwaps_53 : decode cX7_trySwaps 53 = .ok (.aload_n 0, 1) := by decide +kernel
theorem dX7_trySwaps_54 : decode cX7_trySwaps 54 = .ok (.getfield 48, 3) := by decide +kernel
theorem dX7_trySwaps_57 : decode cX7_trySwaps 57 = .ok (.iload_n 3, 1) := by decide +kernel
theorem dX7_trySwaps_58 : decode cX7_trySwaps 58 = .ok (.iload 4, 2) := by decide +kernel
theorem dX7_trySwaps_60 : decode cX7_trySwaps 60 = .ok (.invokevirtual 137, 3) := by decide +kernel
theorem dX7_trySwaps_63 : decode cX7_trySwaps 63 = .ok (.aload_n 0, 1) := by decide +kernel
theorem dX7_trySwaps_64 : decode cX7_trySwaps 64 = .ok (.iload_n 2, 1) := by decide +kernel
theorem dX7_trySwaps_65 : decode cX7_trySwaps 65 = .ok (.invokevirtual 358, 3) := by decide +kernel
theorem dX7_trySwaps_68 : decode cX7_trySwaps 68 = .ok (.istore_n 2, 1) := by decide +kernel
theorem dX7_trySwaps_69 : decode cX7_trySwaps 69 = .ok (.iinc 4 1, 3) := by decide +kernel
theorem dX7_trySwaps_72 : decode cX7_trySwaps 72 = .ok (.goto (-52), 3) := by decide +kernel
theorem dX7_trySwaps_75 : decode cX7_trySwaps 75 = .ok (.iinc 3 1, 3) := by decide +kernel
theorem dX7_trySwaps_78 : decode cX7_trySwaps 78 = .ok (.goto (-74), 3) := by decide +kernel
theorem dX7_trySwaps_81 : decode cX7_trySwaps 81 = .ok (.iload_n 2, 1) := by decide +kernel
theorem dX7_trySwaps_82 : decode cX7_trySwaps 82 = .ok (.ireturn, 1) := by decide +kernel
theorem dX7_keepIfLess_0 : decode cX7_keepIfLess 0 = .ok (.aload_n 0, 1) := by decide +kernel
theorem dX7_keepIfLess_1 : decode cX7_keepIfLess 1 = .ok (.getfield 51, 3) := by decide +kernel
theorem dX7_keepIfLess_4 : decode cX7_keepIfLess 4 = .ok (.aload_n 0, 1) := by decide +kernel
theorem dX7_keepIfLess_5 : decode cX7_keepIfLess 5 = .ok (.getfield 28, 3) := by decide +kernel
theorem dX7_keepIfLess_8 : decode cX7_keepIfLess 8 = .ok (.getfield 111, 3) := by decide +kernel
theorem dX7_keepIfLess_11 : decode cX7_keepIfLess 11 = .ok (.invokevirtual 114, 3) := by decide +kernel
theorem dX7_keepIfLess_14 : decode cX7_keepIfLess 14 = .ok (.istore_n 2, 1) := by decide +kernel
theorem dX7_keepIfLess_15 : decode cX7_keepIfLess 15 = .ok (.iload_n 2, 1) := by decide +kernel
theorem dX7_keepIfLess_16 : decode cX7_keepIfLess 16 = .ok (.iload_n 1, 1) := by decide +kernel
theorem dX7_keepIfLess_17 : decode cX7_keepIfLess 17 = .ok (.if_icmp .lt 5, 3) := by decide +kernel
theorem dX7_keepIfLess_20 : decode cX7_keepIfLess 20 = .ok (.iload_n 1, 1) := by decide +kernel
theorem dX7_keepIfLess_21 : decode cX7_keepIfLess 21 = .ok (.ireturn, 1) := by decide +kernel
theorem dX7_keepIfLess_22 : decode cX7_keepIfLess 22 = .ok (.aload_n 0, 1) := by decide +kernel
theorem dX7_keepIfLess_23 : decode cX7_keepIfLess 23 = .ok (.getfield 54, 3) := by decide +kernel
theorem dX7_keepIfLess_26 : decode cX7_keepIfLess 26 = .ok (.aload_n 0, 1) := by decide +kernel
theorem dX7_keepIfLess_27 : decode cX7_keepIfLess 27 = .ok (.getfield 48, 3) := by decide +kernel
theorem dX7_keepIfLess_30 : decode cX7_keepIfLess 30 = .ok (.invokevirtual 320, 3) := by decide +kernel
theorem dX7_keepIfLess_33 : decode cX7_keepIfLess 33 = .ok (.iload_n 2, 1) := by decide +kernel
theorem dX7_keepIfLess_34 : decode cX7_keepIfLess 34 = .ok (.ireturn, 1) := by decide +kernel
theorem dX7_takeStep_0 : decode cX7_takeStep 0 = .ok (.aload_n 0, 1) := by decide +kernel
theorem dX7_takeStep_1 : decode cX7_takeStep 1 = .ok (.getfield 35, 3) := by decide +kernel
theorem dX7_takeStep_4 : decode cX7_takeStep 4 = .ok (.aload_n 0, 1) := by decide +kernel
theorem dX7_takeStep_5 : decode cX7_takeStep 5 = .ok (.getfield 54, 3) := by decide +kernel
theorem dX7_takeStep_8 : decode cX7_takeStep 8 = .ok (.invokevirtual 320, 3) := by decide +kernel
theorem dX7_takeStep_11 : decode cX7_takeStep 11 = .ok (.aload_n 0, 1) := by decide +kernel
theorem dX7_takeStep_12 : decode cX7_takeStep 12 = .ok (.getfield 44, 3) := by decide +kernel
theorem dX7_takeStep_15 : decode cX7_takeStep 15 = .ok (.aload_n 0, 1) := by decide +kernel
theorem dX7_takeStep_16 : decode cX7_takeStep 16 = .ok (.getfield 28, 3) := by decide +kernel
theorem dX7_takeStep_19 : decode cX7_takeStep 19 = .ok (.getfield 111, 3) := by decide +kernel
theorem dX7_takeStep_22 : decode cX7_takeStep 22 = .ok (.invokevirtual 114, 3) := by decide +kernel
theorem dX7_takeStep_25 : decode cX7_takeStep 25 = .ok (.ireturn, 1) := by decide +kernel
theorem dJ9_max_7cf53_0 : decode cJ9_max_7cf53 0 = .ok (.iload_n 0, 1) := by decide +kernel
theorem dJ9_max_7cf53_1 : decode cJ9_max_7cf53 1 = .ok (.iload_n 1, 1) := by decide +kernel
theorem dJ9_max_7cf53_2 : decode cJ9_max_7cf53 2 = .ok (.if_icmp .lt 7, 3) := by decide +kernel
theorem dJ9_max_7cf53_5 : decode cJ9_max_7cf53 5 = .ok (.iload_n 0, 1) := by decide +kernel
theorem dJ9_max_7cf53_6 : decode cJ9_max_7cf53 6 = .ok (.goto 4, 3) := by decide +kernel
theorem dJ9_max_7cf53_9 : decode cJ9_max_7cf53 9 = .ok (.iload_n 1, 1) := by decide +kernel
theorem dJ9_max_7cf53_10 : decode cJ9_max_7cf53 10 = .ok (.ireturn, 1) := by decide +kernel
theorem dJ0_length_8abf5_0 : decode cJ0_length_8abf5 0 = .ok (.aload_n 0, 1) := by decide +kernel
theorem dJ0_length_8abf5_1 : decode cJ0_length_8abf5 1 = .ok (.getfield 9, 3) := by decide +kernel
theorem dJ0_length_8abf5_4 : decode cJ0_length_8abf5 4 = .ok (.arraylength, 1) := by decide +kernel
theorem dJ0_length_8abf5_5 : decode cJ0_length_8abf5 5 = .ok (.aload_n 0, 1) := by decide +kernel
theorem dJ0_length_8abf5_6 : decode cJ0_length_8abf5 6 = .ok (.invokevirtual 335, 3) := by decide +kernel
theorem dJ0_length_8abf5_9 : decode cJ0_length_8abf5 9 = .ok (.ishr, 1) := by decide +kernel
theorem dJ0_length_8abf5_10 : decode cJ0_length_8abf5 10 = .ok (.ireturn, 1) := by decide +kernel
theorem dJ0_charAt_5068e_0 : decode cJ0_charAt_5068e 0 = .ok (.aload_n 0, 1) := by decide +kernel
theorem dJ0_charAt_5068e_1 : decode cJ0_charAt_5068e 1 = .ok (.invokevirtual 492, 3) := by decide +kernel
theorem dJ0_charAt_5068e_4 : decode cJ0_charAt_5068e 4 = .ok (.ifCond .eq 12, 3) := by decide +kernel
theorem dJ0_charAt_5068e_7 : decode cJ0_charAt_5068e 7 = .ok (.aload_n 0, 1) := by decide +kernel
theorem dJ0_charAt_5068e_8 : decode cJ0_charAt_5068e 8 = .ok (.getfield 9, 3) := by decide +kernel
theorem dJ0_charAt_5068e_11 : decode cJ0_charAt_5068e 11 = .ok (.iload_n 1, 1) := by decide +kernel
theorem dJ0_charAt_5068e_12 : decode cJ0_charAt_5068e 12 = .ok (.invokestatic 495, 3) := by decide +kernel
theorem dJ0_charAt_5068e_15 : decode cJ0_charAt_5068e 15 = .ok (.ireturn, 1) := by decide +kernel
theorem dJ0_charAt_5068e_16 : decode cJ0_charAt_5068e 16 = .ok (.aload_n 0, 1) := by decide +kernel
theorem dJ0_charAt_5068e_17 : decode cJ0_charAt_5068e 17 = .ok (.getfield 9, 3) := by decide +kernel
theorem dJ0_charAt_5068e_20 : decode cJ0_charAt_5068e 20 = .ok (.iload_n 1, 1) := by decide +kernel
theorem dJ0_charAt_5068e_21 : decode cJ0_charAt_5068e 21 = .ok (.invokestatic 498, 3) := by decide +kernel
theorem dJ0_charAt_5068e_24 : decode cJ0_charAt_5068e 24 = .ok (.ireturn, 1) := by decide +kernel
theorem dJ0_coder_7d493_0 : decode cJ0_coder_7d493 0 = .ok (.getstatic 38, 3) := by decide +kernel
theorem dJ0_coder_7d493_3 : decode cJ0_coder_7d493 3 = .ok (.ifCond .eq 10, 3) := by decide +kernel
theorem dJ0_coder_7d493_6 : decode cJ0_coder_7d493 6 = .ok (.aload_n 0, 1) := by decide +kernel
theorem dJ0_coder_7d493_7 : decode cJ0_coder_7d493 7 = .ok (.getfield 15, 3) := by decide +kernel
theorem dJ0_coder_7d493_10 : decode cJ0_coder_7d493 10 = .ok (.goto 4, 3) := by decide +kernel
theorem dJ0_coder_7d493_13 : decode cJ0_coder_7d493 13 = .ok (.iconst 1, 1) := by decide +kernel
theorem dJ0_coder_7d493_14 : decode cJ0_coder_7d493 14 = .ok (.ireturn, 1) := by decide +kernel
theorem dJ0_isLatin1_aae02_0 : decode cJ0_isLatin1_aae02 0 = .ok (.getstatic 38, 3) := by decide +kernel
theorem dJ0_isLatin1_aae02_3 : decode cJ0_isLatin1_aae02 3 = .ok (.ifCond .eq 14, 3) := by decide +kernel
theorem dJ0_isLatin1_aae02_6 : decode cJ0_isLatin1_aae02 6 = .ok (.aload_n 0, 1) := by decide +kernel
theorem dJ0_isLatin1_aae02_7 : decode cJ0_isLatin1_aae02 7 = .ok (.getfield 15, 3) := by decide +kernel
theorem dJ0_isLatin1_aae02_10 : decode cJ0_isLatin1_aae02 10 = .ok (.ifCond .ne 7, 3) := by decide +kernel
theorem dJ0_isLatin1_aae02_13 : decode cJ0_isLatin1_aae02 13 = .ok (.iconst 1, 1) := by decide +kernel
theorem dJ0_isLatin1_aae02_14 : decode cJ0_isLatin1_aae02 14 = .ok (.goto 4, 3) := by decide +kernel
theorem dJ0_isLatin1_aae02_17 : decode cJ0_isLatin1_aae02 17 = .ok (.iconst 0, 1) := by decide +kernel
theorem dJ0_isLatin1_aae02_18 : decode cJ0_isLatin1_aae02 18 = .ok (.ireturn, 1) := by decide +kernel
theorem dJ0_checkIndex_df160_0 : decode cJ0_checkIndex_df160 0 = .ok (.iload_n 0, 1) := by decide +kernel
theorem dJ0_checkIndex_df160_1 : decode cJ0_checkIndex_df160 1 = .ok (.iload_n 1, 1) := by decide +kernel
theorem dJ0_checkIndex_df160_2 : decode cJ0_checkIndex_df160 2 = .ok (.getstatic 1053, 3) := by decide +kernel
theorem dJ0_checkIndex_df160_5 : decode cJ0_checkIndex_df160 5 = .ok (.invokestatic 1059, 3) := by decide +kernel
theorem dJ0_checkIndex_df160_8 : decode cJ0_checkIndex_df160 8 = .ok (.pop, 1) := by decide +kernel
theorem dJ0_checkIndex_df160_9 : decode cJ0_checkIndex_df160 9 = .ok (.return_, 1) := by decide +kernel
theorem dJ1_charAt_3b067_0 : decode cJ1_charAt_3b067 0 = .ok (.iload_n 1, 1) := by decide +kernel
theorem dJ1_charAt_3b067_1 : decode cJ1_charAt_3b067 1 = .ok (.aload_n 0, 1) := by decide +kernel
theorem dJ1_charAt_3b067_2 : decode cJ1_charAt_3b067 2 = .ok (.arraylength, 1) := by decide +kernel
theorem dJ1_charAt_3b067_3 : decode cJ1_charAt_3b067 3 = .ok (.invokestatic 9, 3) := by decide +kernel
theorem dJ1_charAt_3b067_6 : decode cJ1_charAt_3b067 6 = .ok (.aload_n 0, 1) := by decide +kernel
theorem dJ1_charAt_3b067_7 : decode cJ1_charAt_3b067 7 = .ok (.iload_n 1, 1) := by decide +kernel
theorem dJ1_charAt_3b067_8 : decode cJ1_charAt_3b067 8 = .ok (.baload, 1) := by decide +kernel
theorem dJ1_charAt_3b067_9 : decode cJ1_charAt_3b067 9 = .ok (.sipush 255, 3) := by decide +kernel
theorem dJ1_charAt_3b067_12 : decode cJ1_charAt_3b067 12 = .ok (.iand, 1) := by decide +kernel
theorem dJ1_charAt_3b067_13 : decode cJ1_charAt_3b067 13 = .ok (.i2c, 1) := by decide +kernel
theorem dJ1_charAt_3b067_14 : decode cJ1_charAt_3b067 14 = .ok (.ireturn, 1) := by decide +kernel
theorem dJ2_getChar_3b067_0 : decode cJ2_getChar_3b067 0 = .ok (.getstatic 44, 3) := by decide +kernel
theorem dJ2_getChar_3b067_3 : decode cJ2_getChar_3b067 3 = .ok (.ifCond .ne 25, 3) := by decide +kernel
theorem dJ2_getChar_3b067_6 : decode cJ2_getChar_3b067 6 = .ok (.iload_n 1, 1) := by decide +kernel
theorem dJ2_getChar_3b067_7 : decode cJ2_getChar_3b067 7 = .ok (.ifCond .lt 11, 3) := by decide +kernel
theorem dJ2_getChar_3b067_10 : decode cJ2_getChar_3b067 10 = .ok (.iload_n 1, 1) := by decide +kernel
theorem dJ2_getChar_3b067_11 : decode cJ2_getChar_3b067 11 = .ok (.aload_n 0, 1) := by decide +kernel
theorem dJ2_getChar_3b067_12 : decode cJ2_getChar_3b067 12 = .ok (.invokestatic 48, 3) := by decide +kernel
theorem dJ2_getChar_3b067_15 : decode cJ2_getChar_3b067 15 = .ok (.if_icmp .lt 13, 3) := by decide +kernel
theorem dJ2_getChar_3b067_18 : decode cJ2_getChar_3b067 18 = .ok (.new 52, 3) := by decide +kernel
theorem dJ2_getChar_3b067_21 : decode cJ2_getChar_3b067 21 = .ok (.dup, 1) := by decide +kernel
theorem dJ2_getChar_3b067_22 : decode cJ2_getChar_3b067 22 = .ok (.ldc 54, 2) := by decide +kernel
theorem dJ2_getChar_3b067_24 : decode cJ2_getChar_3b067 24 = .ok (.invokespecial 56, 3) := by decide +kernel
theorem dJ2_getChar_3b067_27 : decode cJ2_getChar_3b067 27 = .ok (.athrow, 1) := by decide +kernel
theorem dJ2_getChar_3b067_28 : decode cJ2_getChar_3b067 28 = .ok (.iload_n 1, 1) := by decide +kernel
theorem dJ2_getChar_3b067_29 : decode cJ2_getChar_3b067 29 = .ok (.iconst 1, 1) := by decide +kernel
theorem dJ2_getChar_3b067_30 : decode cJ2_getChar_3b067 30 = .ok (.ishl, 1) := by decide +kernel
theorem dJ2_getChar_3b067_31 : decode cJ2_getChar_3b067 31 = .ok (.istore_n 1, 1) := by decide +kernel
theorem dJ2_getChar_3b067_32 : decode cJ2_getChar_3b067 32 = .ok (.aload_n 0, 1) := by decide +kernel
theorem dJ2_getChar_3b067_33 : decode cJ2_getChar_3b067 33 = .ok (.iload_n 1, 1) := by decide +kernel
theorem dJ2_getChar_3b067_34 : decode cJ2_getChar_3b067 34 = .ok (.iinc 1 1, 3) := by decide +kernel
theorem dJ2_getChar_3b067_37 : decode cJ2_getChar_3b067 37 = .ok (.baload, 1) := by decide +kernel
theorem dJ2_getChar_3b067_38 : decode cJ2_getChar_3b067 38 = .ok (.sipush 255, 3) := by decide +kernel
theorem dJ2_getChar_3b067_41 : decode cJ2_getChar_3b067 41 = .ok (.iand, 1) := by decide +kernel
theorem dJ2_getChar_3b067_42 : decode cJ2_getChar_3b067 42 = .ok (.getstatic 59, 3) := by decide +kernel
theorem dJ2_getChar_3b067_45 : decode cJ2_getChar_3b067 45 = .ok (.ishl, 1) := by decide +kernel
theorem dJ2_getChar_3b067_46 : decode cJ2_getChar_3b067 46 = .ok (.aload_n 0, 1) := by decide +kernel
theorem dJ2_getChar_3b067_47 : decode cJ2_getChar_3b067 47 = .ok (.iload_n 1, 1) := by decide +kernel
theorem dJ2_getChar_3b067_48 : decode cJ2_getChar_3b067 48 = .ok (.baload, 1) := by decide +kernel
theorem dJ2_getChar_3b067_49 : decode cJ2_getChar_3b067 49 = .ok (.sipush 255, 3) := by decide +kernel
theorem dJ2_getChar_3b067_52 : decode cJ2_getChar_3b067 52 = .ok (.iand, 1) := by decide +kernel
theorem dJ2_getChar_3b067_53 : decode cJ2_getChar_3b067 53 = .ok (.getstatic 63, 3) := by decide +kernel
theorem dJ2_getChar_3b067_56 : decode cJ2_getChar_3b067 56 = .ok (.ishl, 1) := by decide +kernel
theorem dJ2_getChar_3b067_57 : decode cJ2_getChar_3b067 57 = .ok (.ior, 1) := by decide +kernel
theorem dJ2_getChar_3b067_58 : decode cJ2_getChar_3b067 58 = .ok (.i2c, 1) := by decide +kernel
theorem dJ2_getChar_3b067_59 : decode cJ2_getChar_3b067 59 = .ok (.ireturn, 1) := by decide +kernel
theorem dJ2_length_9d52b_0 : decode cJ2_length_9d52b 0 = .ok (.aload_n 0, 1) := by decide +kernel
theorem dJ2_length_9d52b_1 : decode cJ2_length_9d52b 1 = .ok (.arraylength, 1) := by decide +kernel
theorem dJ2_length_9d52b_2 : decode cJ2_length_9d52b 2 = .ok (.iconst 1, 1) := by decide +kernel
theorem dJ2_length_9d52b_3 : decode cJ2_length_9d52b 3 = .ok (.ishr, 1) := by decide +kernel
theorem dJ2_length_9d52b_4 : decode cJ2_length_9d52b 4 = .ok (.ireturn, 1) := by decide +kernel
theorem dJ2_charAt_3b067_0 : decode cJ2_charAt_3b067 0 = .ok (.iload_n 1, 1) := by decide +kernel
theorem dJ2_charAt_3b067_1 : decode cJ2_charAt_3b067 1 = .ok (.aload_n 0, 1) := by decide +kernel
theorem dJ2_charAt_3b067_2 : decode cJ2_charAt_3b067 2 = .ok (.invokestatic 67, 3) := by decide +kernel
theorem dJ2_charAt_3b067_5 : decode cJ2_charAt_3b067 5 = .ok (.aload_n 0, 1) := by decide +kernel
theorem dJ2_charAt_3b067_6 : decode cJ2_charAt_3b067 6 = .ok (.iload_n 1, 1) := by decide +kernel
theorem dJ2_charAt_3b067_7 : decode cJ2_charAt_3b067 7 = .ok (.invokestatic 71, 3) := by decide +kernel
theorem dJ2_charAt_3b067_10 : decode cJ2_charAt_3b067 10 = .ok (.ireturn, 1) := by decide +kernel
theorem dJ2_checkIndex_2214a_0 : decode cJ2_checkIndex_2214a 0 = .ok (.iload_n 0, 1) := by decide +kernel
theorem dJ2_checkIndex_2214a_1 : decode cJ2_checkIndex_2214a 1 = .ok (.aload_n 1, 1) := by decide +kernel
theorem dJ2_checkIndex_2214a_2 : decode cJ2_checkIndex_2214a 2 = .ok (.invokestatic 48, 3) := by decide +kernel
theorem dJ2_checkIndex_2214a_5 : decode cJ2_checkIndex_2214a 5 = .ok (.invokestatic 414, 3) := by decide +kernel
theorem dJ2_checkIndex_2214a_8 : decode cJ2_checkIndex_2214a 8 = .ok (.return_, 1) := by decide +kernel
theorem dJ7_fill_53178_0 : decode cJ7_fill_53178 0 = .ok (.iconst 0, 1) := by decide +kernel
theorem dJ7_fill_53178_1 : decode cJ7_fill_53178 1 = .ok (.istore_n 2, 1) := by decide +kernel
theorem dJ7_fill_53178_2 : decode cJ7_fill_53178 2 = .ok (.aload_n 0, 1) := by decide +kernel
theorem dJ7_fill_53178_3 : decode cJ7_fill_53178 3 = .ok (.arraylength, 1) := by decide +kernel
theorem dJ7_fill_53178_4 : decode cJ7_fill_53178 4 = .ok (.istore_n 3, 1) := by decide +kernel
theorem dJ7_fill_53178_5 : decode cJ7_fill_53178 5 = .ok (.iload_n 2, 1) := by decide +kernel
theorem dJ7_fill_53178_6 : decode cJ7_fill_53178 6 = .ok (.iload_n 3, 1) := by decide +kernel
theorem dJ7_fill_53178_7 : decode cJ7_fill_53178 7 = .ok (.if_icmp .ge 13, 3) := by decide +kernel
theorem dJ7_fill_53178_10 : decode cJ7_fill_53178 10 = .ok (.aload_n 0, 1) := by decide +kernel
theorem dJ7_fill_53178_11 : decode cJ7_fill_53178 11 = .ok (.iload_n 2, 1) := by decide +kernel
theorem dJ7_fill_53178_12 : decode cJ7_fill_53178 12 = .ok (.iload_n 1, 1) := by decide +kernel
theorem dJ7_fill_53178_13 : decode cJ7_fill_53178 13 = .ok (.iastore, 1) := by decide +kernel
theorem dJ7_fill_53178_14 : decode cJ7_fill_53178 14 = .ok (.iinc 2 1, 3) := by decide +kernel
theorem dJ7_fill_53178_17 : decode cJ7_fill_53178 17 = .ok (.goto (-12), 3) := by decide +kernel
theorem dJ7_fill_53178_20 : decode cJ7_fill_53178 20 = .ok (.return_, 1) := by decide +kernel
theorem dJ3_checkIndex_8e157_0 : decode cJ3_checkIndex_8e157 0 = .ok (.iload_n 0, 1) := by decide +kernel
theorem dJ3_checkIndex_8e157_1 : decode cJ3_checkIndex_8e157 1 = .ok (.ifCond .lt 8, 3) := by decide +kernel
theorem dJ3_checkIndex_8e157_4 : decode cJ3_checkIndex_8e157 4 = .ok (.iload_n 0, 1) := by decide +kernel
theorem dJ3_checkIndex_8e157_5 : decode cJ3_checkIndex_8e157 5 = .ok (.iload_n 1, 1) := by decide +kernel
theorem dJ3_checkIndex_8e157_6 : decode cJ3_checkIndex_8e157 6 = .ok (.if_icmp .lt 10, 3) := by decide +kernel
theorem dJ3_checkIndex_8e157_9 : decode cJ3_checkIndex_8e157 9 = .ok (.aload_n 2, 1) := by decide +kernel
theorem dJ3_checkIndex_8e157_10 : decode cJ3_checkIndex_8e157 10 = .ok (.iload_n 0, 1) := by decide +kernel
theorem dJ3_checkIndex_8e157_11 : decode cJ3_checkIndex_8e157 11 = .ok (.iload_n 1, 1) := by decide +kernel
theorem dJ3_checkIndex_8e157_12 : decode cJ3_checkIndex_8e157 12 = .ok (.invokestatic 95, 3) := by decide +kernel
theorem dJ3_checkIndex_8e157_15 : decode cJ3_checkIndex_8e157 15 = .ok (.athrow, 1) := by decide +kernel
theorem dJ3_checkIndex_8e157_16 : decode cJ3_checkIndex_8e157 16 = .ok (.iload_n 0, 1) := by decide +kernel
theorem dJ3_checkIndex_8e157_17 : decode cJ3_checkIndex_8e157 17 = .ok (.ireturn, 1) := by decide +kernel
