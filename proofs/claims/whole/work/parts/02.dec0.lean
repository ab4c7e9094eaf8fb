theorem dX0_init_0 : decode cX0_init 0 = .ok (.aload_n 0, 1) := by decide +kernel
theorem dX0_init_1 : decode cX0_init 1 = .ok (.iload_n 1, 1) := by decide +kernel
theorem dX0_init_2 : decode cX0_init 2 = .ok (.iload_n 2, 1) := by decide +kernel
theorem dX0_init_3 : decode cX0_init 3 = .ok (.invokespecial 1, 3) := by decide +kernel
theorem dX0_init_6 : decode cX0_init 6 = .ok (.return_, 1) := by decide +kernel
theorem dX0_heeds_0 : decode cX0_heeds 0 = .ok (.aload_n 0, 1) := by decide +kernel
theorem dX0_heeds_1 : decode cX0_heeds 1 = .ok (.aload_n 1, 1) := by decide +kernel
theorem dX0_heeds_2 : decode cX0_heeds 2 = .ok (.iload_n 2, 1) := by decide +kernel
theorem dX0_heeds_3 : decode cX0_heeds 3 = .ok (.iload_n 3, 1) := by decide +kernel
theorem dX0_heeds_4 : decode cX0_heeds 4 = .ok (.invokespecial 7, 3) := by decide +kernel
theorem dX0_heeds_7 : decode cX0_heeds 7 = .ok (.iconst 2, 1) := by decide +kernel
theorem dX0_heeds_8 : decode cX0_heeds 8 = .ok (.idiv, 1) := by decide +kernel
theorem dX0_heeds_9 : decode cX0_heeds 9 = .ok (.ireturn, 1) := by decide +kernel
theorem dX0_value_0 : decode cX0_value 0 = .ok (.aload_n 0, 1) := by decide +kernel
theorem dX0_value_1 : decode cX0_value 1 = .ok (.invokespecial 11, 3) := by decide +kernel
theorem dX0_value_4 : decode cX0_value 4 = .ok (.iconst 1, 1) := by decide +kernel
theorem dX0_value_5 : decode cX0_value 5 = .ok (.isub, 1) := by decide +kernel
theorem dX0_value_6 : decode cX0_value 6 = .ok (.ireturn, 1) := by decide +kernel
theorem dX1_init_0 : decode cX1_init 0 = .ok (.aload_n 0, 1) := by decide +kernel
theorem dX1_init_1 : decode cX1_init 1 = .ok (.iload_n 1, 1) := by decide +kernel
theorem dX1_init_2 : decode cX1_init 2 = .ok (.iload_n 2, 1) := by decide +kernel
theorem dX1_init_3 : decode cX1_init 3 = .ok (.invokespecial 1, 3) := by decide +kernel
theorem dX1_init_6 : decode cX1_init 6 = .ok (.return_, 1) := by decide +kernel
theorem dX1_heeds_0 : decode cX1_heeds 0 = .ok (.iconst 0, 1) := by decide +kernel
theorem dX1_heeds_1 : decode cX1_heeds 1 = .ok (.aload_n 0, 1) := by decide +kernel
theorem dX1_heeds_2 : decode cX1_heeds 2 = .ok (.aload_n 1, 1) := by decide +kernel
theorem dX1_heeds_3 : decode cX1_heeds 3 = .ok (.iload_n 2, 1) := by decide +kernel
theorem dX1_heeds_4 : decode cX1_heeds 4 = .ok (.iload_n 3, 1) := by decide +kernel
theorem dX1_heeds_5 : decode cX1_heeds 5 = .ok (.invokespecial 7, 3) := by decide +kernel
theorem dX1_heeds_8 : decode cX1_heeds 8 = .ok (.bipush 30, 2) := by decide +kernel
theorem dX1_heeds_10 : decode cX1_heeds 10 = .ok (.isub, 1) := by decide +kernel
theorem dX1_heeds_11 : decode cX1_heeds 11 = .ok (.invokestatic 11, 3) := by decide +kernel
theorem dX1_heeds_14 : decode cX1_heeds 14 = .ok (.ireturn, 1) := by decide +kernel
theorem dX1_value_0 : decode cX1_value 0 = .ok (.bipush 30, 2) := by decide +kernel
theorem dX1_value_2 : decode cX1_value 2 = .ok (.ireturn, 1) := by decide +kernel
theorem dX2_init_0 : decode cX2_init 0 = .ok (.aload_n 0, 1) := by decide +kernel
theorem dX2_init_1 : decode cX2_init 1 = .ok (.iload_n 1, 1) := by decide +kernel
theorem dX2_init_2 : decode cX2_init 2 = .ok (.iload_n 2, 1) := by decide +kernel
theorem dX2_init_3 : decode cX2_init 3 = .ok (.invokespecial 3, 3) := by decide +kernel
theorem dX2_init_6 : decode cX2_init 6 = .ok (.return_, 1) := by decide +kernel
theorem dX2_picks_0 : decode cX2_picks 0 = .ok (.aload_n 1, 1) := by decide +kernel
theorem dX2_picks_1 : decode cX2_picks 1 = .ok (.aload_n 0, 1) := by decide +kernel
theorem dX2_picks_2 : decode cX2_picks 2 = .ok (.getfield 9, 3) := by decide +kernel
theorem dX2_picks_5 : decode cX2_picks 5 = .ok (.aload_n 1, 1) := by decide +kernel
theorem dX2_picks_6 : decode cX2_picks 6 = .ok (.getfield 15, 3) := by decide +kernel
theorem dX2_picks_9 : decode cX2_picks 9 = .ok (.iload_n 2, 1) := by decide +kernel
theorem dX2_picks_10 : decode cX2_picks 10 = .ok (.bipush 12, 2) := by decide +kernel
theorem dX2_picks_12 : decode cX2_picks 12 = .ok (.imul, 1) := by decide +kernel
theorem dX2_picks_13 : decode cX2_picks 13 = .ok (.invokevirtual 21, 3) := by decide +kernel
theorem dX2_picks_16 : decode cX2_picks 16 = .ok (.ireturn, 1) := by decide +kernel
theorem dX2_value_0 : decode cX2_value 0 = .ok (.aload_n 0, 1) := by decide +kernel
theorem dX2_value_1 : decode cX2_value 1 = .ok (.invokespecial 25, 3) := by decide +kernel
theorem dX2_value_4 : decode cX2_value 4 = .ok (.bipush 10, 2) := by decide +kernel
theorem dX2_value_6 : decode cX2_value 6 = .ok (.iadd, 1) := by decide +kernel
theorem dX2_value_7 : decode cX2_value 7 = .ok (.ireturn, 1) := by decide +kernel
theorem dX3_init_0 : decode cX3_init 0 = .ok (.aload_n 0, 1) := by decide +kernel
theorem dX3_init_1 : decode cX3_init 1 = .ok (.iload_n 1, 1) := by decide +kernel
theorem dX3_init_2 : decode cX3_init 2 = .ok (.iload_n 2, 1) := by decide +kernel
theorem dX3_init_3 : decode cX3_init 3 = .ok (.invokespecial 1, 3) := by decide +kernel
theorem dX3_init_6 : decode cX3_init 6 = .ok (.return_, 1) := by decide +kernel
theorem dX3_heeds_0 : decode cX3_heeds 0 = .ok (.iload_n 2, 1) := by decide +kernel
theorem dX3_heeds_1 : decode cX3_heeds 1 = .ok (.aload_n 0, 1) := by decide +kernel
theorem dX3_heeds_2 : decode cX3_heeds 2 = .ok (.getfield 7, 3) := by decide +kernel
theorem dX3_heeds_5 : decode cX3_heeds 5 = .ok (.if_icmp .eq 15, 3) := by decide +kernel
theorem dX3_heeds_8 : decode cX3_heeds 8 = .ok (.aload_n 1, 1) := by decide +kernel
theorem dX3_heeds_9 : decode cX3_heeds 9 = .ok (.iload_n 2, 1) := by decide +kernel
theorem dX3_heeds_10 : decode cX3_heeds 10 = .ok (.aload_n 0, 1) := by decide +kernel
theorem dX3_heeds_11 : decode cX3_heeds 11 = .ok (.getfield 7, 3) := by decide +kernel
theorem dX3_heeds_14 : decode cX3_heeds 14 = .ok (.invokevirtual 13, 3) := by decide +kernel
theorem dX3_heeds_17 : decode cX3_heeds 17 = .ok (.ifCond .eq 7, 3) := by decide +kernel
theorem dX3_heeds_20 : decode cX3_heeds 20 = .ok (.iconst 0, 1) := by decide +kernel
theorem dX3_heeds_21 : decode cX3_heeds 21 = .ok (.goto 10, 3) := by decide +kernel
theorem dX3_heeds_24 : decode cX3_heeds 24 = .ok (.aload_n 0, 1) := by decide +kernel
theorem dX3_heeds_25 : decode cX3_heeds 25 = .ok (.aload_n 1, 1) := by decide +kernel
theorem dX3_heeds_26 : decode cX3_heeds 26 = .ok (.iload_n 2, 1) := by decide +kernel
theorem dX3_heeds_27 : decode cX3_heeds 27 = .ok (.iload_n 3, 1) := by decide +kernel
theorem dX3_heeds_28 : decode cX3_heeds 28 = .ok (.invokespecial 19, 3) := by decide +kernel
theorem dX3_heeds_31 : decode cX3_heeds 31 = .ok (.ireturn, 1) := by decide +kernel
theorem dX3_value_0 : decode cX3_value 0 = .ok (.iconst 2, 1) := by decide +kernel
theorem dX3_value_1 : decode cX3_value 1 = .ok (.aload_n 0, 1) := by decide +kernel
theorem dX3_value_2 : decode cX3_value 2 = .ok (.invokespecial 23, 3) := by decide +kernel
theorem dX3_value_5 : decode cX3_value 5 = .ok (.imul, 1) := by decide +kernel
theorem dX3_value_6 : decode cX3_value 6 = .ok (.ireturn, 1) := by decide +kernel
theorem dX4_init_0 : decode cX4_init 0 = .ok (.aload_n 0, 1) := by decide +kernel
theorem dX4_init_1 : decode cX4_init 1 = .ok (.iload_n 1, 1) := by decide +kernel
theorem dX4_init_2 : decode cX4_init 2 = .ok (.iload_n 2, 1) := by decide +kernel
theorem dX4_init_3 : decode cX4_init 3 = .ok (.invokespecial 1, 3) := by decide +kernel
theorem dX4_init_6 : decode cX4_init 6 = .ok (.return_, 1) := by decide +kernel
theorem dX4_picks_0 : decode cX4_picks 0 = .ok (.aload_n 1, 1) := by decide +kernel
theorem dX4_picks_1 : decode cX4_picks 1 = .ok (.aload_n 0, 1) := by decide +kernel
theorem dX4_picks_2 : decode cX4_picks 2 = .ok (.getfield 7, 3) := by decide +kernel
theorem dX4_picks_5 : decode cX4_picks 5 = .ok (.aload_n 1, 1) := by decide +kernel
theorem dX4_picks_6 : decode cX4_picks 6 = .ok (.getfield 13, 3) := by decide +kernel
theorem dX4_picks_9 : decode cX4_picks 9 = .ok (.iconst 0, 1) := by decide +kernel
theorem dX4_picks_10 : decode cX4_picks 10 = .ok (.invokevirtual 19, 3) := by decide +kernel
theorem dX4_picks_13 : decode cX4_picks 13 = .ok (.ireturn, 1) := by decide +kernel
theorem dX4_value_0 : decode cX4_value 0 = .ok (.aload_n 0, 1) := by decide +kernel
theorem dX4_value_1 : decode cX4_value 1 = .ok (.invokespecial 23, 3) := by decide +kernel
theorem dX4_value_4 : decode cX4_value 4 = .ok (.bipush 20, 2) := by decide +kernel
theorem dX4_value_6 : decode cX4_value 6 = .ok (.iadd, 1) := by decide +kernel
theorem dX4_value_7 : decode cX4_value 7 = .ok (.ireturn, 1) := by decide +kernel
theorem dX5_init_0 : decode cX5_init 0 = .ok (.aload_n 0, 1) := by decide +kernel
theorem dX5_init_1 : decode cX5_init 1 = .ok (.invokespecial 3, 3) := by decide +kernel
theorem dX5_init_4 : decode cX5_init 4 = .ok (.aload_n 0, 1) := by decide +kernel
theorem dX5_init_5 : decode cX5_init 5 = .ok (.iconst (-1), 1) := by decide +kernel
theorem dX5_init_6 : decode cX5_init 6 = .ok (.putfield 9, 3) := by decide +kernel
theorem dX5_init_9 : decode cX5_init 9 = .ok (.aload_n 0, 1) := by decide +kernel
theorem dX5_init_10 : decode cX5_init 10 = .ok (.iconst 0, 1) := by decide +kernel
theorem dX5_init_11 : decode cX5_init 11 = .ok (.putfield 15, 3) := by decide +kernel
theorem dX5_init_14 : decode cX5_init 14 = .ok (.aload_n 0, 1) := by decide +kernel
theorem dX5_init_15 : decode cX5_init 15 = .ok (.bipush 24, 2) := by decide +kernel
theorem dX5_init_17 : decode cX5_init 17 = .ok (.newarray .int, 2) := by decide +kernel
theorem dX5_init_19 : decode cX5_init 19 = .ok (.putfield 18, 3) := by decide +kernel
theorem dX5_init_22 : decode cX5_init 22 = .ok (.return_, 1) := by decide +kernel
theorem dX5_become_0 : decode cX5_become 0 = .ok (.aload_n 0, 1) := by decide +kernel
theorem dX5_become_1 : decode cX5_become 1 = .ok (.aload_n 1, 1) := by decide +kernel
theorem dX5_become_2 : decode cX5_become 2 = .ok (.getfield 9, 3) := by decide +kernel
theorem dX5_become_5 : decode cX5_become 5 = .ok (.putfield 9, 3) := by decide +kernel
theorem dX5_become_8 : decode cX5_become 8 = .ok (.aload_n 0, 1) := by decide +kernel
theorem dX5_become_9 : decode cX5_become 9 = .ok (.aload_n 1, 1) := by decide +kernel
theorem dX5_become_10 : decode cX5_become 10 = .ok (.getfield 15, 3) := by decide +kernel
theorem dX5_become_13 : decode cX5_become 13 = .ok (.putfield 15, 3) := by decide +kernel
theorem dX5_become_16 : decode cX5_become 16 = .ok (.aload_n 1, 1) := by decide +kernel
theorem dX5_become_17 : decode cX5_become 17 = .ok (.getfield 18, 3) := by decide +kernel
theorem dX5_become_20 : decode cX5_become 20 = .ok (.iconst 0, 1) := by decide +kernel
theorem dX5_become_21 : decode cX5_become 21 = .ok (.aload_n 0, 1) := by decide +kernel
theorem dX5_become_22 : decode cX5_become 22 = .ok (.getfield 18, 3) := by decide +kernel
theorem dX5_become_25 : decode cX5_become 25 = .ok (.iconst 0, 1) := by decide +kernel
theorem dX5_become_26 : decode cX5_become 26 = .ok (.bipush 24, 2) := by decide +kernel
theorem dX5_become_28 : decode cX5_become 28 = .ok (.invokestatic 22, 3) := by decide +kernel
theorem dX5_become_31 : decode cX5_become 31 = .ok (.return_, 1) := by decide +kernel
theorem dX5_hasPlace_0 : decode cX5_hasPlace 0 = .ok (.iload_n 1, 1) := by decide +kernel
theorem dX5_hasPlace_1 : decode cX5_hasPlace 1 = .ok (.iconst 0, 1) := by decide +kernel
theorem dX5_hasPlace_2 : decode cX5_hasPlace 2 = .ok (.aload_n 0, 1) := by decide +kernel
theorem dX5_hasPlace_3 : decode cX5_hasPlace 3 = .ok (.getfield 15, 3) := by decide +kernel
theorem dX5_hasPlace_6 : decode cX5_hasPlace 6 = .ok (.iconst 1, 1) := by decide +kernel
theorem dX5_hasPlace_7 : decode cX5_hasPlace 7 = .ok (.isub, 1) := by decide +kernel
theorem dX5_hasPlace_8 : decode cX5_hasPlace 8 = .ok (.invokestatic 28, 3) := by decide +kernel
theorem dX5_hasPlace_11 : decode cX5_hasPlace 11 = .ok (.ireturn, 1) := by decide +kernel
theorem dX5_hasPlaces_0 : decode cX5_hasPlaces 0 = .ok (.iload_n 2, 1) := by decide +kernel
theorem dX5_hasPlaces_1 : decode cX5_hasPlaces 1 = .ok (.ifCond .lt 21, 3) := by decide +kernel
theorem dX5_hasPlaces_4 : decode cX5_hasPlaces 4 = .ok (.iload_n 1, 1) := by decide +kernel
theorem dX5_hasPlaces_5 : decode cX5_hasPlaces 5 = .ok (.ifCond .lt 17, 3) := by decide +kernel
theorem dX5_hasPlaces_8 : decode cX5_hasPlaces 8 = .ok (.iload_n 1, 1) := by decide +kernel
theorem dX5_hasPlaces_9 : decode cX5_hasPlaces 9 = .ok (.aload_n 0, 1) := by decide +kernel
theorem dX5_hasPlaces_10 : decode cX5_hasPlaces 10 = .ok (.getfield 15, 3) := by decide +kernel
theorem dX5_hasPlaces_13 : decode cX5_hasPlaces 13 = .ok (.iload_n 2, 1) := by decide +kernel
theorem dX5_hasPlaces_14 : decode cX5_hasPlaces 14 = .ok (.isub, 1) := by decide +kernel
theorem dX5_hasPlaces_15 : decode cX5_hasPlaces 15 = .ok (.if_icmp .gt 7, 3) := by decide +kernel
theorem dX5_hasPlaces_18 : decode cX5_hasPlaces 18 = .ok (.iconst 1, 1) := by decide +kernel
theorem dX5_hasPlaces_19 : decode cX5_hasPlaces 19 = .ok (.goto 4, 3) := by decide +kernel
theorem dX5_hasPlaces_22 : decode cX5_hasPlaces 22 = .ok (.iconst 0, 1) := by decide +kernel
theorem dX5_hasPlaces_23 : decode cX5_hasPlaces 23 = .ok (.ireturn, 1) := by decide +kernel
theorem dX6_init_0 : decode cX6_init 0 = .ok (.aload_n 0, 1) := by decide +kernel
theorem dX6_init_1 : decode cX6_init 1 = .ok (.invokespecial 3, 3) := by decide +kernel
theorem dX6_init_4 : decode cX6_init 4 = .ok (.aload_n 0, 1) := by decide +kernel
theorem dX6_init_5 : decode cX6_init 5 = .ok (.iconst 0, 1) := by decide +kernel
theorem dX6_init_6 : decode cX6_init 6 = .ok (.putfield 9, 3) := by decide +kernel
theorem dX6_init_9 : decode cX6_init 9 = .ok (.aload_n 0, 1) := by decide +kernel
theorem dX6_init_10 : decode cX6_init 10 = .ok (.aconst_null, 1) := by decide +kernel
theorem dX6_init_11 : decode cX6_init 11 = .ok (.putfield 15, 3) := by decide +kernel
theorem dX6_init_14 : decode cX6_init 14 = .ok (.aload_n 0, 1) := by decide +kernel
theorem dX6_init_15 : decode cX6_init 15 = .ok (.new 19, 3) := by decide +kernel
theorem dX6_init_18 : decode cX6_init 18 = .ok (.dup, 1) := by decide +kernel
theorem dX6_init_19 : decode cX6_init 19 = .ok (.invokespecial 21, 3) := by decide +kernel
theorem dX6_init_22 : decode cX6_init 22 = .ok (.putfield 22, 3) := by decide +kernel
theorem dX6_init_25 : decode cX6_init 25 = .ok (.aload_n 0, 1) := by decide +kernel
theorem dX6_init_26 : decode cX6_init 26 = .ok (.iconst 0, 1) := by decide +kernel
theorem dX6_init_27 : decode cX6_init 27 = .ok (.putfield 26, 3) := by decide +kernel
theorem dX6_init_30 : decode cX6_init 30 = .ok (.return_, 1) := by decide +kernel
theorem dX7_init_0 : decode cX7_init 0 = .ok (.aload_n 0, 1) := by decide +kernel
theorem dX7_init_1 : decode cX7_init 1 = .ok (.invokespecial 3, 3) := by decide +kernel
theorem dX7_init_4 : decode cX7_init 4 = .ok (.aload_n 0, 1) := by decide +kernel
theorem dX7_init_5 : decode cX7_init 5 = .ok (.iconst 0, 1) := by decide +kernel
theorem dX7_init_6 : decode cX7_init 6 = .ok (.putfield 9, 3) := by decide +kernel
theorem dX7_init_9 : decode cX7_init 9 = .ok (.aload_n 0, 1) := by decide +kernel
theorem dX7_init_10 : decode cX7_init 10 = .ok (.bipush 96, 2) := by decide +kernel
theorem dX7_init_12 : decode cX7_init 12 = .ok (.newarray .int, 2) := by decide +kernel
theorem dX7_init_14 : decode cX7_init 14 = .ok (.putfield 15, 3) := by decide +kernel
theorem dX7_init_17 : decode cX7_init 17 = .ok (.aload_n 0, 1) := by decide +kernel
theorem dX7_init_18 : decode cX7_init 18 = .ok (.bipush 96, 2) := by decide +kernel
theorem dX7_init_20 : decode cX7_init 20 = .ok (.newarray .int, 2) := by decide +kernel
theorem dX7_init_22 : decode cX7_init 22 = .ok (.putfield 19, 3) := by decide +kernel
theorem dX7_init_25 : decode cX7_init 25 = .ok (.aload_n 0, 1) := by decide +kernel
theorem dX7_init_26 : decode cX7_init 26 = .ok (.bipush 96, 2) := by decide +kernel
theorem dX7_init_28 : decode cX7_init 28 = .ok (.newarray .int, 2) := by decide +kernel
theorem dX7_init_30 : decode cX7_init 30 = .ok (.putfield 22, 3) := by decide +kernel
theorem dX7_init_33 : decode cX7_init 33 = .ok (.return_, 1) := by decide +kernel
theorem dX7_addFour_0 : decode cX7_addFour 0 = .ok (.bipush 24, 2) := by decide +kernel
theorem dX7_addFour_2 : decode cX7_addFour 2 = .ok (.istore_n 2, 1) := by decide +kernel
theorem dX7_addFour_3 : decode cX7_addFour 3 = .ok (.iload_n 2, 1) := by decide +kernel
theorem dX7_addFour_4 : decode cX7_addFour 4 = .ok (.ifCond .lt 44, 3) := by decide +kernel
theorem dX7_addFour_7 : decode cX7_addFour 7 = .ok (.aload_n 0, 1) := by decide +kernel
theorem dX7_addFour_8 : decode cX7_addFour 8 = .ok (.getfield 9, 3) := by decide +kernel
theorem dX7_addFour_11 : decode cX7_addFour 11 = .ok (.bipush 96, 2) := by decide +kernel
theorem dX7_addFour_13 : decode cX7_addFour 13 = .ok (.if_icmp .ge 35, 3) := by decide +kernel
theorem dX7_addFour_16 : decode cX7_addFour 16 = .ok (.aload_n 0, 1) := by decide +kernel
theorem dX7_addFour_17 : decode cX7_addFour 17 = .ok (.getfield 15, 3) := by decide +kernel
theorem dX7_addFour_20 : decode cX7_addFour 20 = .ok (.aload_n 0, 1) := by decide +kernel
theorem dX7_addFour_21 : decode cX7_addFour 21 = .ok (.getfield 9, 3) := by decide +kernel
theorem dX7_addFour_24 : decode cX7_addFour 24 = .ok (.iload_n 1, 1) := by decide +kernel
theorem dX7_addFour_25 : decode cX7_addFour 25 = .ok (.iload_n 2, 1) := by decide +kernel
theorem dX7_addFour_26 : decode cX7_addFour 26 = .ok (.iushr, 1) := by decide +kernel
theorem dX7_addFour_27 : decode cX7_addFour 27 = .ok (.sipush 255, 3) := by decide +kernel
theorem dX7_addFour_30 : decode cX7_addFour 30 = .ok (.iand, 1) := by decide +kernel
theorem dX7_addFour_31 : decode cX7_addFour 31 = .ok (.iastore, 1) := by decide +kernel
theorem dX7_addFour_32 : decode cX7_addFour 32 = .ok (.aload_n 0, 1) := by decide +kernel
theorem dX7_addFour_33 : decode cX7_addFour 33 = .ok (.dup, 1) := by decide +kernel
theorem dX7_addFour_34 : decode cX7_addFour 34 = .ok (.getfield 9, 3) := by decide +kernel
theorem dX7_addFour_37 : decode cX7_addFour 37 = .ok (.iconst 1, 1) := by decide +kernel
theorem dX7_addFour_38 : decode cX7_addFour 38 = .ok (.iadd, 1) := by decide +kernel
theorem dX7_addFour_39 : decode cX7_addFour 39 = .ok (.putfield 9, 3) := by decide +kernel
theorem dX7_addFour_42 : decode cX7_addFour 42 = .ok (.iinc 2 (-8), 3) := by decide +kernel
theorem dX7_addFour_45 : decode cX7_addFour 45 = .ok (.goto (-42), 3) := by decide +kernel
theorem dX7_addFour_48 : decode cX7_addFour 48 = .ok (.return_, 1) := by decide +kernel
theorem dX7_fault_0 : decode cX7_fault 0 = .ok (.aload_n 0, 1) := by decide +kernel
theorem dX7_fault_1 : decode cX7_fault 1 = .ok (.iconst 0, 1) := by decide +kernel
theorem dX7_fault_2 : decode cX7_fault 2 = .ok (.putfield 25, 3) := by decide +kernel
theorem dX7_fault_5 : decode cX7_fault 5 = .ok (.aload_n 0, 1) := by decide +kernel
theorem dX7_fault_6 : decode cX7_fault 6 = .ok (.iconst 0, 1) := by decide +kernel
theorem dX7_fault_7 : decode cX7_fault 7 = .ok (.putfield 28, 3) := by decide +kernel
theorem dX7_fault_10 : decode cX7_fault 10 = .ok (.aload_n 0, 1) := by decide +kernel
theorem dX7_fault_11 : decode cX7_fault 11 = .ok (.iconst 0, 1) := by decide +kernel
theorem dX7_fault_12 : decode cX7_fault 12 = .ok (.putfield 31, 3) := by decide +kernel
theorem dX7_fault_15 : decode cX7_fault 15 = .ok (.aload_n 0, 1) := by decide +kernel
theorem dX7_fault_16 : decode cX7_fault 16 = .ok (.iconst 0, 1) := by decide +kernel
theorem dX7_fault_17 : decode cX7_fault 17 = .ok (.putfield 34, 3) := by decide +kernel
theorem dX7_fault_20 : decode cX7_fault 20 = .ok (.aload_n 0, 1) := by decide +kernel
theorem dX7_fault_21 : decode cX7_fault 21 = .ok (.iconst 0, 1) := by decide +kernel
theorem dX7_fault_22 : decode cX7_fault 22 = .ok (.putfield 37, 3) := by decide +kernel
theorem dX7_fault_25 : decode cX7_fault 25 = .ok (.aload_n 0, 1) := by decide +kernel
theorem dX7_fault_26 : decode cX7_fault 26 = .ok (.iconst 0, 1) := by decide +kernel
theorem dX7_fault_27 : decode cX7_fault 27 = .ok (.putfield 40, 3) := by decide +kernel
theorem dX7_fault_30 : decode cX7_fault 30 = .ok (.aload_n 0, 1) := by decide +kernel
theorem dX7_fault_31 : decode cX7_fault 31 = .ok (.iconst 1, 1) := by decide +kernel
theorem dX7_fault_32 : decode cX7_fault 32 = .ok (.putfield 43, 3) := by decide +kernel
theorem dX7_fault_35 : decode cX7_fault 35 = .ok (.aload_n 0, 1) := by decide +kernel
theorem dX7_fault_36 : decode cX7_fault 36 = .ok (.invokevirtual 47, 3) := by decide +kernel
theorem dX7_fault_39 : decode cX7_fault 39 = .ok (.aload_n 0, 1) := by decide +kernel
theorem dX7_fault_40 : decode cX7_fault 40 = .ok (.aload_n 0, 1) := by decide +kernel
theorem dX7_fault_41 : decode cX7_fault 41 = .ok (.invokevirtual 50, 3) := by decide +kernel
theorem dX7_fault_44 : decode cX7_fault 44 = .ok (.putfield 54, 3) := by decide +kernel
theorem dX7_fault_47 : decode cX7_fault 47 = .ok (.aload_n 0, 1) := by decide +kernel
theorem dX7_fault_48 : decode cX7_fault 48 = .ok (.getfield 54, 3) := by decide +kernel
theorem dX7_fault_51 : decode cX7_fault 51 = .ok (.ldc 57, 2) := by decide +kernel
theorem dX7_fault_53 : decode cX7_fault 53 = .ok (.if_icmp .ne 8, 3) := by decide +kernel
theorem dX7_fault_56 : decode cX7_fault 56 = .ok (.aload_n 0, 1) := by decide +kernel
theorem dX7_fault_57 : decode cX7_fault 57 = .ok (.getfield 58, 3) := by decide +kernel
theorem dX7_fault_60 : decode cX7_fault 60 = .ok (.ireturn, 1) := by decide +kernel
theorem dX7_fault_61 : decode cX7_fault 61 = .ok (.iconst 0, 1) := by decide +kernel
theorem dX7_fault_62 : decode cX7_fault 62 = .ok (.istore_n 1, 1) := by decide +kernel
theorem dX7_fault_63 : decode cX7_fault 63 = .ok (.iload_n 1, 1) := by decide +kernel
theorem dX7_fault_64 : decode cX7_fault 64 = .ok (.bipush 96, 2) := by decide +kernel
theorem dX7_fault_66 : decode cX7_fault 66 = .ok (.if_icmp .gt 73, 3) := by decide +kernel
theorem dX7_fault_69 : decode cX7_fault 69 = .ok (.aload_n 0, 1) := by decide +kernel
theorem dX7_fault_70 : decode cX7_fault 70 = .ok (.invokevirtual 47, 3) := by decide +kernel
theorem dX7_fault_73 : decode cX7_fault 73 = .ok (.aload_n 0, 1) := by decide +kernel
theorem dX7_fault_74 : decode cX7_fault 74 = .ok (.getfield 61, 3) := by decide +kernel
theorem dX7_fault_77 : decode cX7_fault 77 = .ok (.ifCond .ne 27, 3) := by decide +kernel
theorem dX7_fault_80 : decode cX7_fault 80 = .ok (.aload_n 0, 1) := by decide +kernel
theorem dX7_fault_81 : decode cX7_fault 81 = .ok (.getfield 43, 3) := by decide +kernel
theorem dX7_fault_84 : decode cX7_fault 84 = .ok (.ifCond .ne 10, 3) := by decide +kernel
theorem dX7_fault_87 : decode cX7_fault 87 = .ok (.aload_n 0, 1) := by decide +kernel
theorem dX7_fault_88 : decode cX7_fault 88 = .ok (.getfield 37, 3) := by decide +kernel
theorem dX7_fault_91 : decode cX7_fault 91 = .ok (.ifCond .le 10, 3) := by decide +kernel
theorem dX7_fault_94 : decode cX7_fault 94 = .ok (.aload_n 0, 1) := by decide +kernel
theorem dX7_fault_95 : decode cX7_fault 95 = .ok (.getfield 58, 3) := by decide +kernel
theorem dX7_fault_98 : decode cX7_fault 98 = .ok (.goto 5, 3) := by decide +kernel
theorem dX7_fault_101 : decode cX7_fault 101 = .ok (.ldc 57, 2) := by decide +kernel
theorem dX7_fault_103 : decode cX7_fault 103 = .ok (.ireturn, 1) := by decide +kernel
theorem dX7_fault_104 : decode cX7_fault 104 = .ok (.aload_n 0, 1) := by decide +kernel
theorem dX7_fault_105 : decode cX7_fault 105 = .ok (.getfield 43, 3) := by decide +kernel
theorem dX7_fault_108 : decode cX7_fault 108 = .ok (.ifCond .eq 13, 3) := by decide +kernel
theorem dX7_fault_111 : decode cX7_fault 111 = .ok (.aload_n 0, 1) := by decide +kernel
theorem dX7_fault_112 : decode cX7_fault 112 = .ok (.invokevirtual 64, 3) := by decide +kernel
theorem dX7_fault_115 : decode cX7_fault 115 = .ok (.ifCond .ne 18, 3) := by decide +kernel
theorem dX7_fault_118 : decode cX7_fault 118 = .ok (.goto 10, 3) := by decide +kernel
theorem dX7_fault_121 : decode cX7_fault 121 = .ok (.aload_n 0, 1) := by decide +kernel
theorem dX7_fault_122 : decode cX7_fault 122 = .ok (.invokevirtual 68, 3) := by decide +kernel
theorem dX7_fault_125 : decode cX7_fault 125 = .ok (.ifCond .ne 8, 3) := by decide +kernel
theorem dX7_fault_128 : decode cX7_fault 128 = .ok (.aload_n 0, 1) := by decide +kernel
theorem dX7_fault_129 : decode cX7_fault 129 = .ok (.getfield 58, 3) := by decide +kernel
theorem dX7_fault_132 : decode cX7_fault 132 = .ok (.ireturn, 1) := by decide +kernel
theorem dX7_fault_133 : decode cX7_fault 133 = .ok (.iinc 1 1, 3) := by decide +kernel
theorem dX7_fault_136 : decode cX7_fault 136 = .ok (.goto (-73), 3) := by decide +kernel
theorem dX7_fault_139 : decode cX7_fault 139 = .ok (.aload_n 0, 1) := by decide +kernel
theorem dX7_fault_140 : decode cX7_fault 140 = .ok (.getfield 9, 3) := by decide +kernel
theorem dX7_fault_143 : decode cX7_fault 143 = .ok (.ireturn, 1) := by decide +kernel
theorem dX7_asText_0 : decode cX7_asText 0 = .ok (.aload_n 0, 1) := by decide +kernel
theorem dX7_asText_1 : decode cX7_asText 1 = .ok (.getfield 34, 3) := by decide +kernel
theorem dX7_asText_4 : decode cX7_asText 4 = .ok (.ifCond .le 28, 3) := by decide +kernel
theorem dX7_asText_7 : decode cX7_asText 7 = .ok (.aload_n 0, 1) := by decide +kernel
theorem dX7_asText_8 : decode cX7_asText 8 = .ok (.sipush (-1000), 3) := by decide +kernel
theorem dX7_asText_11 : decode cX7_asText 11 = .ok (.aload_n 0, 1) := by decide +kernel
theorem dX7_asText_12 : decode cX7_asText 12 = .ok (.invokevirtual 71, 3) := by decide +kernel
theorem dX7_asText_15 : decode cX7_asText 15 = .ok (.isub, 1) := by decide +kernel
theorem dX7_asText_16 : decode cX7_asText 16 = .ok (.invokevirtual 74, 3) := by decide +kernel
theorem dX7_asText_19 : decode cX7_asText 19 = .ok (.aload_n 0, 1) := by decide +kernel
theorem dX7_asText_20 : decode cX7_asText 20 = .ok (.dup, 1) := by decide +kernel
theorem dX7_asText_21 : decode cX7_asText 21 = .ok (.getfield 34, 3) := by decide +kernel
theorem dX7_asText_24 : decode cX7_asText 24 = .ok (.iconst 1, 1) := by decide +kernel
theorem dX7_asText_25 : decode cX7_asText 25 = .ok (.isub, 1) := by decide +kernel
theorem dX7_asText_26 : decode cX7_asText 26 = .ok (.putfield 34, 3) := by decide +kernel
theorem dX7_asText_29 : decode cX7_asText 29 = .ok (.goto (-29), 3) := by decide +kernel
theorem dX7_asText_32 : decode cX7_asText 32 = .ok (.new 78, 3) := by decide +kernel
theorem dX7_asText_35 : decode cX7_asText 35 = .ok (.dup, 1) := by decide +kernel
theorem dX7_asText_36 : decode cX7_asText 36 = .ok (.aload_n 0, 1) := by decide +kernel
theorem dX7_asText_37 : decode cX7_asText 37 = .ok (.getfield 54, 3) := by decide +kernel
theorem dX7_asText_40 : decode cX7_asText 40 = .ok (.aload_n 0, 1) := by decide +kernel
theorem dX7_asText_41 : decode cX7_asText 41 = .ok (.getfield 28, 3) := by decide +kernel
theorem dX7_asText_44 : decode cX7_asText 44 = .ok (.aload_n 0, 1) := by decide +kernel
theorem dX7_asText_45 : decode cX7_asText 45 = .ok (.getfield 19, 3) := by decide +kernel
theorem dX7_asText_48 : decode cX7_asText 48 = .ok (.aload_n 0, 1) := by decide +kernel
theorem dX7_asText_49 : decode cX7_asText 49 = .ok (.getfield 31, 3) := by decide +kernel
theorem dX7_asText_52 : decode cX7_asText 52 = .ok (.invokestatic 80, 3) := by decide +kernel
theorem dX7_asText_55 : decode cX7_asText 55 = .ok (.invokespecial 86, 3) := by decide +kernel
theorem dX7_asText_58 : decode cX7_asText 58 = .ok (.areturn, 1) := by decide +kernel
theorem dX7_byteAt_0 : decode cX7_byteAt 0 = .ok (.iload_n 1, 1) := by decide +kernel
theorem dX7_byteAt_1 : decode cX7_byteAt 1 = .ok (.ifCond .lt 26, 3) := by decide +kernel
theorem dX7_byteAt_4 : decode cX7_byteAt 4 = .ok (.iload_n 1, 1) := by decide +kernel
theorem dX7_byteAt_5 : decode cX7_byteAt 5 = .ok (.aload_n 0, 1) := by decide +kernel
theorem dX7_byteAt_6 : decode cX7_byteAt 6 = .ok (.getfield 9, 3) := by decide +kernel
theorem dX7_byteAt_9 : decode cX7_byteAt 9 = .ok (.if_icmp .ge 18, 3) := by decide +kernel
theorem dX7_byteAt_12 : decode cX7_byteAt 12 = .ok (.iload_n 1, 1) := by decide +kernel
theorem dX7_byteAt_13 : decode cX7_byteAt 13 = .ok (.bipush 96, 2) := by decide +kernel
theorem dX7_byteAt_15 : decode cX7_byteAt 15 = .ok (.if_icmp .ge 12, 3) := by decide +kernel
theorem dX7_byteAt_18 : decode cX7_byteAt 18 = .ok (.aload_n 0, 1) := by decide +kernel
theorem dX7_byteAt_19 : decode cX7_byteAt 19 = .ok (.getfield 15, 3) := by decide +kernel
theorem dX7_byteAt_22 : decode cX7_byteAt 22 = .ok (.iload_n 1, 1) := by decide +kernel
theorem dX7_byteAt_23 : decode cX7_byteAt 23 = .ok (.iaload, 1) := by decide +kernel
theorem dX7_byteAt_24 : decode cX7_byteAt 24 = .ok (.goto 4, 3) := by decide +kernel
theorem dX7_byteAt_27 : decode cX7_byteAt 27 = .ok (.iconst 0, 1) := by decide +kernel
theorem dX7_byteAt_28 : decode cX7_byteAt 28 = .ok (.ireturn, 1) := by decide +kernel
theorem dX7_sortOf_0 : decode cX7_sortOf 0 = .ok (.iload_n 0, 1) := by decide +kernel
theorem dX7_sortOf_1 : decode cX7_sortOf 1 = .ok (.bipush 97, 2) := by decide +kernel
theorem dX7_sortOf_3 : decode cX7_sortOf 3 = .ok (.if_icmp .lt 11, 3) := by decide +kernel
theorem dX7_sortOf_6 : decode cX7_sortOf 6 = .ok (.iload_n 0, 1) := by decide +kernel
theorem dX7_sortOf_7 : decode cX7_sortOf 7 = .ok (.bipush 122, 2) := by decide +kernel
theorem dX7_sortOf_9 : decode cX7_sortOf 9 = .ok (.if_icmp .gt 5, 3) := by decide +kernel
theorem dX7_sortOf_12 : decode cX7_sortOf 12 = .ok (.iconst 1, 1) := by decide +kernel
theorem dX7_sortOf_13 : decode cX7_sortOf 13 = .ok (.ireturn, 1) := by decide +kernel
theorem dX7_sortOf_14 : decode cX7_sortOf 14 = .ok (.iload_n 0, 1) := by decide +kernel
theorem dX7_sortOf_15 : decode cX7_sortOf 15 = .ok (.bipush 48, 2) := by decide +kernel
theorem dX7_sortOf_17 : decode cX7_sortOf 17 = .ok (.if_icmp .lt 13, 3) := by decide +kernel
theorem dX7_sortOf_20 : decode cX7_sortOf 20 = .ok (.iload_n 0, 1) := by decide +kernel
theorem dX7_sortOf_21 : decode cX7_sortOf 21 = .ok (.bipush 57, 2) := by decide +kernel
theorem dX7_sortOf_23 : decode cX7_sortOf 23 = .ok (.if_icmp .gt 7, 3) := by decide +kernel
theorem dX7_sortOf_26 : decode cX7_sortOf 26 = .ok (.iconst 2, 1) := by decide +kernel
theorem dX7_sortOf_27 : decode cX7_sortOf 27 = .ok (.goto 4, 3) := by decide +kernel
theorem dX7_sortOf_30 : decode cX7_sortOf 30 = .ok (.iconst 3, 1) := by decide +kernel
theorem dX7_sortOf_31 : decode cX7_sortOf 31 = .ok (.ireturn, 1) := by decide +kernel
theorem dX7_step_0 : decode cX7_step 0 = .ok (.aload_n 0, 1) := by decide +kernel
theorem dX7_step_1 : decode cX7_step 1 = .ok (.aload_n 0, 1) := by decide +kernel
theorem dX7_step_2 : decode cX7_step 2 = .ok (.getfield 25, 3) := by decide +kernel
theorem dX7_step_5 : decode cX7_step 5 = .ok (.putfield 58, 3) := by decide +kernel
theorem dX7_step_8 : decode cX7_step 8 = .ok (.aload_n 0, 1) := by decide +kernel
theorem dX7_step_9 : decode cX7_step 9 = .ok (.getfield 58, 3) := by decide +kernel
theorem dX7_step_12 : decode cX7_step 12 = .ok (.aload_n 0, 1) := by decide +kernel
theorem dX7_step_13 : decode cX7_step 13 = .ok (.getfield 9, 3) := by decide +kernel
theorem dX7_step_16 : decode cX7_step 16 = .ok (.if_icmp .ge 29, 3) := by decide +kernel
theorem dX7_step_19 : decode cX7_step 19 = .ok (.aload_n 0, 1) := by decide +kernel
theorem dX7_step_20 : decode cX7_step 20 = .ok (.aload_n 0, 1) := by decide +kernel
theorem dX7_step_21 : decode cX7_step 21 = .ok (.getfield 58, 3) := by decide +kernel
theorem dX7_step_24 : decode cX7_step 24 = .ok (.invokevirtual 89, 3) := by decide +kernel
theorem dX7_step_27 : decode cX7_step 27 = .ok (.bipush 32, 2) := by decide +kernel
theorem dX7_step_29 : decode cX7_step 29 = .ok (.if_icmp .ne 16, 3) := by decide +kernel
theorem dX7_step_32 : decode cX7_step 32 = .ok (.aload_n 0, 1) := by decide +kernel
theorem dX7_step_33 : decode cX7_step 33 = .ok (.dup, 1) := by decide +kernel
theorem dX7_step_34 : decode cX7_step 34 = .ok (.getfield 58, 3) := by decide +kernel
theorem dX7_step_37 : decode cX7_step 37 = .ok (.iconst 1, 1) := by decide +kernel
theorem dX7_step_38 : decode cX7_step 38 = .ok (.iadd, 1) := by decide +kernel
theorem dX7_step_39 : decode cX7_step 39 = .ok (.putfield 58, 3) := by decide +kernel
theorem dX7_step_42 : decode cX7_step 42 = .ok (.goto (-34), 3) := by decide +kernel
theorem dX7_step_45 : decode cX7_step 45 = .ok (.aload_n 0, 1) := by decide +kernel
theorem dX7_step_46 : decode cX7_step 46 = .ok (.aload_n 0, 1) := by decide +kernel
theorem dX7_step_47 : decode cX7_step 47 = .ok (.getfield 58, 3) := by decide +kernel
theorem dX7_step_50 : decode cX7_step 50 = .ok (.putfield 25, 3) := by decide +kernel
theorem dX7_step_53 : decode cX7_step 53 = .ok (.aload_n 0, 1) := by decide +kernel
theorem dX7_step_54 : decode cX7_step 54 = .ok (.iconst 0, 1) := by decide +kernel
theorem dX7_step_55 : decode cX7_step 55 = .ok (.putfield 61, 3) := by decide +kernel
theorem dX7_step_58 : decode cX7_step 58 = .ok (.aload_n 0, 1) := by decide +kernel
theorem dX7_step_59 : decode cX7_step 59 = .ok (.getfield 58, 3) := by decide +kernel
theorem dX7_step_62 : decode cX7_step 62 = .ok (.aload_n 0, 1) := by decide +kernel
theorem dX7_step_63 : decode cX7_step 63 = .ok (.getfield 9, 3) := by decide +kernel
theorem dX7_step_66 : decode cX7_step 66 = .ok (.if_icmp .lt 4, 3) := by decide +kernel
theorem dX7_step_69 : decode cX7_step 69 = .ok (.return_, 1) := by decide +kernel
theorem dX7_step_70 : decode cX7_step 70 = .ok (.aload_n 0, 1) := by decide +kernel
theorem dX7_step_71 : decode cX7_step 71 = .ok (.aload_n 0, 1) := by decide +kernel
theorem dX7_step_72 : decode cX7_step 72 = .ok (.aload_n 0, 1) := by decide +kernel
theorem dX7_step_73 : decode cX7_step 73 = .ok (.getfield 58, 3) := by decide +kernel
theorem dX7_step_76 : decode cX7_step 76 = .ok (.invokevirtual 89, 3) := by decide +kernel
theorem dX7_step_79 : decode cX7_step 79 = .ok (.invokestatic 93, 3) := by decide +kernel
theorem dX7_step_82 : decode cX7_step 82 = .ok (.putfield 61, 3) := by decide +kernel
theorem dX7_step_85 : decode cX7_step 85 = .ok (.aload_n 0, 1) := by decide +kernel
theorem dX7_step_86 : decode cX7_step 86 = .ok (.dup, 1) := by decide +kernel
theorem dX7_step_87 : decode cX7_step 87 = .ok (.getfield 25, 3) := by decide +kernel
theorem dX7_step_90 : decode cX7_step 90 = .ok (.iconst 1, 1) := by decide +kernel
theorem dX7_step_91 : decode cX7_step 91 = .ok (.iadd, 1) := by decide +kernel
theorem dX7_step_92 : decode cX7_step 92 = .ok (.putfield 25, 3) := by decide +kernel
theorem dX7_step_95 : decode cX7_step 95 = .ok (.aload_n 0, 1) := by decide +kernel
theorem dX7_step_96 : decode cX7_step 96 = .ok (.getfield 61, 3) := by decide +kernel
theorem dX7_step_99 : decode cX7_step 99 = .ok (.iconst 3, 1) := by decide +kernel
theorem dX7_step_100 : decode cX7_step 100 = .ok (.if_icmp .eq 45, 3) := by decide +kernel
theorem dX7_step_103 : decode cX7_step 103 = .ok (.aload_n 0, 1) := by decide +kernel
theorem dX7_step_104 : decode cX7_step 104 = .ok (.getfield 25, 3) := by decide +kernel
theorem dX7_step_107 : decode cX7_step 107 = .ok (.aload_n 0, 1) := by decide +kernel
theorem dX7_step_108 : decode cX7_step 108 = .ok (.getfield 9, 3) := by decide +kernel
theorem dX7_step_111 : decode cX7_step 111 = .ok (.if_icmp .ge 34, 3) := by decide +kernel
theorem dX7_step_114 : decode cX7_step 114 = .ok (.aload_n 0, 1) := by decide +kernel
theorem dX7_step_115 : decode cX7_step 115 = .ok (.aload_n 0, 1) := by decide +kernel
theorem dX7_step_116 : decode cX7_step 116 = .ok (.getfield 25, 3) := by decide +kernel
theorem dX7_step_119 : decode cX7_step 119 = .ok (.invokevirtual 89, 3) := by decide +kernel
theorem dX7_step_122 : decode cX7_step 122 = .ok (.invokestatic 93, 3) := by decide +kernel
theorem dX7_step_125 : decode cX7_step 125 = .ok (.aload_n 0, 1) := by decide +kernel
theorem dX7_step_126 : decode cX7_step 126 = .ok (.getfield 61, 3) := by decide +kernel
theorem dX7_step_129 : decode cX7_step 129 = .ok (.if_icmp .ne 16, 3) := by decide +kernel
theorem dX7_step_132 : decode cX7_step 132 = .ok (.aload_n 0, 1) := by decide +kernel
theorem dX7_step_133 : decode cX7_step 133 = .ok (.dup, 1) := by decide +kernel
theorem dX7_step_134 : decode cX7_step 134 = .ok (.getfield 25, 3) := by decide +kernel
theorem dX7_step_137 : decode cX7_step 137 = .ok (.iconst 1, 1) := by decide +kernel
theorem dX7_step_138 : decode cX7_step 138 = .ok (.iadd, 1) := by decide +kernel
theorem dX7_step_139 : decode cX7_step 139 = .ok (.putfield 25, 3) := by decide +kernel
theorem dX7_step_142 : decode cX7_step 142 = .ok (.goto (-47), 3) := by decide +kernel
theorem dX7_step_145 : decode cX7_step 145 = .ok (.return_, 1) := by decide +kernel
theorem dX7_isWord_0 : decode cX7_isWord 0 = .ok (.aload_n 0, 1) := by decide +kernel
theorem dX7_isWord_1 : decode cX7_isWord 1 = .ok (.getfield 61, 3) := by decide +kernel
theorem dX7_isWord_4 : decode cX7_isWord 4 = .ok (.iconst 1, 1) := by decide +kernel
theorem dX7_isWord_5 : decode cX7_isWord 5 = .ok (.if_icmp .ne 19, 3) := by decide +kernel
theorem dX7_isWord_8 : decode cX7_isWord 8 = .ok (.aload_n 0, 1) := by decide +kernel
theorem dX7_isWord_9 : decode cX7_isWord 9 = .ok (.getfield 25, 3) := by decide +kernel
theorem dX7_isWord_12 : decode cX7_isWord 12 = .ok (.aload_n 0, 1) := by decide +kernel
theorem dX7_isWord_13 : decode cX7_isWord 13 = .ok (.getfield 58, 3) := by decide +kernel
theorem dX7_isWord_16 : decode cX7_isWord 16 = .ok (.isub, 1) := by decide +kernel
theorem dX7_isWord_17 : decode cX7_isWord 17 = .ok (.aload_n 1, 1) := by decide +kernel
theorem dX7_isWord_18 : decode cX7_isWord 18 = .ok (.invokevirtual 96, 3) := by decide +kernel
theorem dX7_isWord_21 : decode cX7_isWord 21 = .ok (.if_icmp .eq 5, 3) := by decide +kernel
theorem dX7_isWord_24 : decode cX7_isWord 24 = .ok (.iconst 0, 1) := by decide +kernel
theorem dX7_isWord_25 : decode cX7_isWord 25 = .ok (.ireturn, 1) := by decide +kernel
theorem dX7_isWord_26 : decode cX7_isWord 26 = .ok (.iconst 0, 1) := by decide +kernel
theorem dX7_isWord_27 : decode cX7_isWord 27 = .ok (.istore_n 2, 1) := by decide +kernel
theorem dX7_isWord_28 : decode cX7_isWord 28 = .ok (.iload_n 2, 1) := by decide +kernel
theorem dX7_isWord_29 : decode cX7_isWord 29 = .ok (.aload_n 1, 1) := by decide +kernel
theorem dX7_isWord_30 : decode cX7_isWord 30 = .ok (.invokevirtual 96, 3) := by decide +kernel
theorem dX7_isWord_33 : decode cX7_isWord 33 = .ok (.if_icmp .ge 29, 3) := by decide +kernel
theorem dX7_isWord_36 : decode cX7_isWord 36 = .ok (.aload_n 0, 1) := by decide +kernel
theorem dX7_isWord_37 : decode cX7_isWord 37 = .ok (.aload_n 0, 1) := by decide +kernel
theorem dX7_isWord_38 : decode cX7_isWord 38 = .ok (.getfield 58, 3) := by decide +kernel
theorem dX7_isWord_41 : decode cX7_isWord 41 = .ok (.iload_n 2, 1) := by decide +kernel
theorem dX7_isWord_42 : decode cX7_isWord 42 = .ok (.iadd, 1) := by decide +kernel
theorem dX7_isWord_43 : decode cX7_isWord 43 = .ok (.invokevirtual 89, 3) := by decide +kernel
theorem dX7_isWord_46 : decode cX7_isWord 46 = .ok (.aload_n 1, 1) := by decide +kernel
theorem dX7_isWord_47 : decode cX7_isWord 47 = .ok (.iload_n 2, 1) := by decide +kernel
theorem dX7_isWord_48 : decode cX7_isWord 48 = .ok (.invokevirtual 101, 3) := by decide +kernel
theorem dX7_isWord_51 : decode cX7_isWord 51 = .ok (.if_icmp .eq 5, 3) := by decide +kernel
theorem dX7_isWord_54 : decode cX7_isWord 54 = .ok (.iconst 0, 1) := by decide +kernel
theorem dX7_isWord_55 : decode cX7_isWord 55 = .ok (.ireturn, 1) := by decide +kernel
theorem dX7_isWord_56 : decode cX7_isWord 56 = .ok (.iinc 2 1, 3) := by decide +kernel
theorem dX7_isWord_59 : decode cX7_isWord 59 = .ok (.goto (-31), 3) := by decide +kernel
theorem dX7_isWord_62 : decode cX7_isWord 62 = .ok (.iconst 1, 1) := by decide +kernel
theorem dX7_isWord_63 : decode cX7_isWord 63 = .ok (.ireturn, 1) := by decide +kernel
theorem dX7_keyHere_0 : decode cX7_keyHere 0 = .ok (.aload_n 0, 1) := by decide +kernel
theorem dX7_keyHere_1 : decode cX7_keyHere 1 = .ok (.ldc 105, 2) := by decide +kernel
theorem dX7_keyHere_3 : decode cX7_keyHere 3 = .ok (.invokevirtual 107, 3) := by decide +kernel
theorem dX7_keyHere_6 : decode cX7_keyHere 6 = .ok (.ifCond .eq 5, 3) := by decide +kernel
theorem dX7_keyHere_9 : decode cX7_keyHere 9 = .ok (.iconst 0, 1) := by decide +kernel
theorem dX7_keyHere_10 : decode cX7_keyHere 10 = .ok (.ireturn, 1) := by decide +kernel
theorem dX7_keyHere_11 : decode cX7_keyHere 11 = .ok (.aload_n 0, 1) := by decide +kernel
theorem dX7_keyHere_12 : decode cX7_keyHere 12 = .ok (.ldc 111, 2) := by decide +kernel
theorem dX7_keyHere_14 : decode cX7_keyHere 14 = .ok (.invokevirtual 107, 3) := by decide +kernel
theorem dX7_keyHere_17 : decode cX7_keyHere 17 = .ok (.ifCond .eq 5, 3) := by decide +kernel
theorem dX7_keyHere_20 : decode cX7_keyHere 20 = .ok (.iconst 1, 1) := by decide +kernel
theorem dX7_keyHere_21 : decode cX7_keyHere 21 = .ok (.ireturn, 1) := by decide +kernel
theorem dX7_keyHere_22 : decode cX7_keyHere 22 = .ok (.aload_n 0, 1) := by decide +kernel
theorem dX7_keyHere_23 : decode cX7_keyHere 23 = .ok (.ldc 113, 2) := by decide +kernel
theorem dX7_keyHere_25 : decode cX7_keyHere 25 = .ok (.invokevirtual 107, 3) := by decide +kernel
theorem dX7_keyHere_28 : decode cX7_keyHere 28 = .ok (.ifCond .eq 7, 3) := by decide +kernel
theorem dX7_keyHere_31 : decode cX7_keyHere 31 = .ok (.iconst 2, 1) := by decide +kernel
theorem dX7_keyHere_32 : decode cX7_keyHere 32 = .ok (.goto 5, 3) := by decide +kernel
theorem dX7_keyHere_35 : decode cX7_keyHere 35 = .ok (.ldc 57, 2) := by decide +kernel
theorem dX7_keyHere_37 : decode cX7_keyHere 37 = .ok (.ireturn, 1) := by decide +kernel
theorem dX7_nameHere_0 : decode cX7_nameHere 0 = .ok (.aload_n 0, 1) := by decide +kernel
theorem dX7_nameHere_1 : decode cX7_nameHere 1 = .ok (.getfield 25, 3) := by decide +kernel
theorem dX7_nameHere_4 : decode cX7_nameHere 4 = .ok (.aload_n 0, 1) := by decide +kernel
theorem dX7_nameHere_5 : decode cX7_nameHere 5 = .ok (.getfield 58, 3) := by decide +kernel
theorem dX7_nameHere_8 : decode cX7_nameHere 8 = .ok (.isub, 1) := by decide +kernel
theorem dX7_nameHere_9 : decode cX7_nameHere 9 = .ok (.iconst 1, 1) := by decide +kernel
theorem dX7_nameHere_10 : decode cX7_nameHere 10 = .ok (.if_icmp .eq 5, 3) := by decide +kernel
theorem dX7_nameHere_13 : decode cX7_nameHere 13 = .ok (.iconst (-1), 1) := by decide +kernel
theorem dX7_nameHere_14 : decode cX7_nameHere 14 = .ok (.ireturn, 1) := by decide +kernel
theorem dX7_nameHere_15 : decode cX7_nameHere 15 = .ok (.aload_n 0, 1) := by decide +kernel
theorem dX7_nameHere_16 : decode cX7_nameHere 16 = .ok (.aload_n 0, 1) := by decide +kernel
theorem dX7_nameHere_17 : decode cX7_nameHere 17 = .ok (.getfield 58, 3) := by decide +kernel
theorem dX7_nameHere_20 : decode cX7_nameHere 20 = .ok (.invokevirtual 89, 3) := by decide +kernel
theorem dX7_nameHere_23 : decode cX7_nameHere 23 = .ok (.i2c, 1) := by decide +kernel
theorem dX7_nameHere_24 : decode cX7_nameHere 24 = .ok (.istore_n 1, 1) := by decide +kernel
theorem dX7_nameHere_25 : decode cX7_nameHere 25 = .ok (.aload_n 0, 1) := by decide +kernel
theorem dX7_nameHere_26 : decode cX7_nameHere 26 = .ok (.getfield 54, 3) := by decide +kernel
theorem dX7_nameHere_29 : decode cX7_nameHere 29 = .ok (.lookupswitch 41 #[(0, 27), (1, 34)], 27) := by decide +kernel
theorem dX7_nameHere_56 : decode cX7_nameHere 56 = .ok (.ldc 115, 2) := by decide +kernel
theorem dX7_nameHere_58 : decode cX7_nameHere 58 = .ok (.iload_n 1, 1) := by decide +kernel
theorem dX7_nameHere_59 : decode cX7_nameHere 59 = .ok (.invokevirtual 117, 3) := by decide +kernel
theorem dX7_nameHere_62 : decode cX7_nameHere 62 = .ok (.ireturn, 1) := by decide +kernel
theorem dX7_nameHere_63 : decode cX7_nameHere 63 = .ok (.ldc 120, 2) := by decide +kernel
theorem dX7_nameHere_65 : decode cX7_nameHere 65 = .ok (.iload_n 1, 1) := by decide +kernel
theorem dX7_nameHere_66 : decode cX7_nameHere 66 = .ok (.invokevirtual 117, 3) := by decide +kernel
theorem dX7_nameHere_69 : decode cX7_nameHere 69 = .ok (.ireturn, 1) := by decide +kernel
theorem dX7_nameHere_70 : decode cX7_nameHere 70 = .ok (.ldc 122, 2) := by decide +kernel
theorem dX7_nameHere_72 : decode cX7_nameHere 72 = .ok (.iload_n 1, 1) := by decide +kernel
theorem dX7_nameHere_73 : decode cX7_nameHere 73 = .ok (.invokevirtual 117, 3) := by decide +kernel
theorem dX7_nameHere_76 : decode cX7_nameHere 76 = .ok (.ireturn, 1) := by decide +kernel
theorem dX7_numberHere_0 : decode cX7_numberHere 0 = .ok (.iconst 0, 1) := by decide +kernel
theorem dX7_numberHere_1 : decode cX7_numberHere 1 = .ok (.istore_n 1, 1) := by decide +kernel
theorem dX7_numberHere_2 : decode cX7_numberHere 2 = .ok (.aload_n 0, 1) := by decide +kernel
theorem dX7_numberHere_3 : decode cX7_numberHere 3 = .ok (.getfield 58, 3) := by decide +kernel
theorem dX7_numberHere_6 : decode cX7_numberHere 6 = .ok (.istore_n 2, 1) := by decide +kernel
theorem dX7_numberHere_7 : decode cX7_numberHere 7 = .ok (.iload_n 2, 1) := by decide +kernel
theorem dX7_numberHere_8 : decode cX7_numberHere 8 = .ok (.aload_n 0, 1) := by decide +kernel
theorem dX7_numberHere_9 : decode cX7_numberHere 9 = .ok (.getfield 25, 3) := by decide +kernel
theorem dX7_numberHere_12 : decode cX7_numberHere 12 = .ok (.if_icmp .ge 23, 3) := by decide +kernel
theorem dX7_numberHere_15 : decode cX7_numberHere 15 = .ok (.bipush 10, 2) := by decide +kernel
theorem dX7_numberHere_17 : decode cX7_numberHere 17 = .ok (.iload_n 1, 1) := by decide +kernel
theorem dX7_numberHere_18 : decode cX7_numberHere 18 = .ok (.imul, 1) := by decide +kernel
theorem dX7_numberHere_19 : decode cX7_numberHere 19 = .ok (.aload_n 0, 1) := by decide +kernel
theorem dX7_numberHere_20 : decode cX7_numberHere 20 = .ok (.iload_n 2, 1) := by decide +kernel
theorem dX7_numberHere_21 : decode cX7_numberHere 21 = .ok (.invokevirtual 89, 3) := by decide +kernel
theorem dX7_numberHere_24 : decode cX7_numberHere 24 = .ok (.iadd, 1) := by decide +kernel
theorem dX7_numberHere_25 : decode cX7_numberHere 25 = .ok (.bipush 48, 2) := by decide +kernel
theorem dX7_numberHere_27 : decode cX7_numberHere 27 = .ok (.isub, 1) := by decide +kernel
theorem dX7_numberHere_28 : decode cX7_numberHere 28 = .ok (.istore_n 1, 1) := by decide +kernel
theorem dX7_numberHere_29 : decode cX7_numberHere 29 = .ok (.iinc 2 1, 3) := by decide +kernel
theorem dX7_numberHere_32 : decode cX7_numberHere 32 = .ok (.goto (-25), 3) := by decide +kernel
theorem dX7_numberHere_35 : decode cX7_numberHere 35 = .ok (.iload_n 1, 1) := by decide +kernel
theorem dX7_numberHere_36 : decode cX7_numberHere 36 = .ok (.ireturn, 1) := by decide +kernel
theorem dX7_takesPiece_0 : decode cX7_takesPiece 0 = .ok (.aload_n 0, 1) := by decide +kernel
theorem dX7_takesPiece_1 : decode cX7_takesPiece 1 = .ok (.getfield 61, 3) := by decide +kernel
theorem dX7_takesPiece_4 : decode cX7_takesPiece 4 = .ok (.iconst 3, 1) := by decide +kernel
theorem dX7_takesPiece_5 : decode cX7_takesPiece 5 = .ok (.if_icmp .eq 8, 3) := by decide +kernel
theorem dX7_takesPiece_8 : decode cX7_takesPiece 8 = .ok (.aload_n 0, 1) := by decide +kernel
theorem dX7_takesPiece_9 : decode cX7_takesPiece 9 = .ok (.invokevirtual 124, 3) := by decide +kernel
theorem dX7_takesPiece_12 : decode cX7_takesPiece 12 = .ok (.ireturn, 1) := by decide +kernel
theorem dX7_takesPiece_13 : decode cX7_takesPiece 13 = .ok (.aload_n 0, 1) := by decide +kernel
theorem dX7_takesPiece_14 : decode cX7_takesPiece 14 = .ok (.aload_n 0, 1) := by decide +kernel
theorem dX7_takesPiece_15 : decode cX7_takesPiece 15 = .ok (.getfield 58, 3) := by decide +kernel
theorem dX7_takesPiece_18 : decode cX7_takesPiece 18 = .ok (.invokevirtual 89, 3) := by decide +kernel
theorem dX7_takesPiece_21 : decode cX7_takesPiece 21 = .ok (.istore_n 1, 1) := by decide +kernel
theorem dX7_takesPiece_22 : decode cX7_takesPiece 22 = .ok (.iload_n 1, 1) := by decide +kernel
theorem dX7_takesPiece_23 : decode cX7_takesPiece 23 = .ok (.bipush 40, 2) := by decide +kernel
theorem dX7_takesPiece_25 : decode cX7_takesPiece 25 = .ok (.if_icmp .ne 29, 3) := by decide +kernel
theorem dX7_takesPiece_28 : decode cX7_takesPiece 28 = .ok (.aload_n 0, 1) := by decide +kernel
theorem dX7_takesPiece_29 : decode cX7_takesPiece 29 = .ok (.getfield 37, 3) := by decide +kernel
theorem dX7_takesPiece_32 : decode cX7_takesPiece 32 = .ok (.bipush 8, 2) := by decide +kernel
theorem dX7_takesPiece_34 : decode cX7_takesPiece 34 = .ok (.if_icmp .ge 20, 3) := by decide +kernel
theorem dX7_takesPiece_37 : decode cX7_takesPiece 37 = .ok (.aload_n 0, 1) := by decide +kernel
theorem dX7_takesPiece_38 : decode cX7_takesPiece 38 = .ok (.dup, 1) := by decide +kernel
theorem dX7_takesPiece_39 : decode cX7_takesPiece 39 = .ok (.getfield 37, 3) := by decide +kernel
theorem dX7_takesPiece_42 : decode cX7_takesPiece 42 = .ok (.iconst 1, 1) := by decide +kernel
theorem dX7_takesPiece_43 : decode cX7_takesPiece 43 = .ok (.iadd, 1) := by decide +kernel
theorem dX7_takesPiece_44 : decode cX7_takesPiece 44 = .ok (.putfield 37, 3) := by decide +kernel
theorem dX7_takesPiece_47 : decode cX7_takesPiece 47 = .ok (.aload_n 0, 1) := by decide +kernel
theorem dX7_takesPiece_48 : decode cX7_takesPiece 48 = .ok (.iload_n 1, 1) := by decide +kernel
theorem dX7_takesPiece_49 : decode cX7_takesPiece 49 = .ok (.invokevirtual 127, 3) := by decide +kernel
theorem dX7_takesPiece_52 : decode cX7_takesPiece 52 = .ok (.iconst 1, 1) := by decide +kernel
theorem dX7_takesPiece_53 : decode cX7_takesPiece 53 = .ok (.ireturn, 1) := by decide +kernel
theorem dX7_takesPiece_54 : decode cX7_takesPiece 54 = .ok (.iload_n 1, 1) := by decide +kernel
theorem dX7_takesPiece_55 : decode cX7_takesPiece 55 = .ok (.bipush 33, 2) := by decide +kernel
theorem dX7_takesPiece_57 : decode cX7_takesPiece 57 = .ok (.if_icmp .ne 29, 3) := by decide +kernel
theorem dX7_takesPiece_60 : decode cX7_takesPiece 60 = .ok (.aload_n 0, 1) := by decide +kernel
theorem dX7_takesPiece_61 : decode cX7_takesPiece 61 = .ok (.getfield 40, 3) := by decide +kernel
theorem dX7_takesPiece_64 : decode cX7_takesPiece 64 = .ok (.bipush 8, 2) := by decide +kernel
theorem dX7_takesPiece_66 : decode cX7_takesPiece 66 = .ok (.if_icmp .ge 20, 3) := by decide +kernel
theorem dX7_takesPiece_69 : decode cX7_takesPiece 69 = .ok (.aload_n 0, 1) := by decide +kernel
theorem dX7_takesPiece_70 : decode cX7_takesPiece 70 = .ok (.dup, 1) := by decide +kernel
theorem dX7_takesPiece_71 : decode cX7_takesPiece 71 = .ok (.getfield 40, 3) := by decide +kernel
theorem dX7_takesPiece_74 : decode cX7_takesPiece 74 = .ok (.iconst 1, 1) := by decide +kernel
theorem dX7_takesPiece_75 : decode cX7_takesPiece 75 = .ok (.iadd, 1) := by decide +kernel
theorem dX7_takesPiece_76 : decode cX7_takesPiece 76 = .ok (.putfield 40, 3) := by decide +kernel
theorem dX7_takesPiece_79 : decode cX7_takesPiece 79 = .ok (.aload_n 0, 1) := by decide +kernel
theorem dX7_takesPiece_80 : decode cX7_takesPiece 80 = .ok (.iload_n 1, 1) := by decide +kernel
theorem dX7_takesPiece_81 : decode cX7_takesPiece 81 = .ok (.invokevirtual 127, 3) := by decide +kernel
theorem dX7_takesPiece_84 : decode cX7_takesPiece 84 = .ok (.iconst 1, 1) := by decide +kernel
theorem dX7_takesPiece_85 : decode cX7_takesPiece 85 = .ok (.ireturn, 1) := by decide +kernel
theorem dX7_takesPiece_86 : decode cX7_takesPiece 86 = .ok (.iconst 0, 1) := by decide +kernel
theorem dX7_takesPiece_87 : decode cX7_takesPiece 87 = .ok (.ireturn, 1) := by decide +kernel
theorem dX7_takesTerm_0 : decode cX7_takesTerm 0 = .ok (.aload_n 0, 1) := by decide +kernel
theorem dX7_takesTerm_1 : decode cX7_takesTerm 1 = .ok (.getfield 58, 3) := by decide +kernel
theorem dX7_takesTerm_4 : decode cX7_takesTerm 4 = .ok (.ifCond .le 37, 3) := by decide +kernel
theorem dX7_takesTerm_7 : decode cX7_takesTerm 7 = .ok (.aload_n 0, 1) := by decide +kernel
theorem dX7_takesTerm_8 : decode cX7_takesTerm 8 = .ok (.aload_n 0, 1) := by decide +kernel
theorem dX7_takesTerm_9 : decode cX7_takesTerm 9 = .ok (.getfield 58, 3) := by decide +kernel
theorem dX7_takesTerm_12 : decode cX7_takesTerm 12 = .ok (.iconst 1, 1) := by decide +kernel
theorem dX7_takesTerm_13 : decode cX7_takesTerm 13 = .ok (.isub, 1) := by decide +kernel
theorem dX7_takesTerm_14 : decode cX7_takesTerm 14 = .ok (.invokevirtual 89, 3) := by decide +kernel
theorem dX7_takesTerm_17 : decode cX7_takesTerm 17 = .ok (.bipush 32, 2) := by decide +kernel
theorem dX7_takesTerm_19 : decode cX7_takesTerm 19 = .ok (.if_icmp .eq 22, 3) := by decide +kernel
theorem dX7_takesTerm_22 : decode cX7_takesTerm 22 = .ok (.aload_n 0, 1) := by decide +kernel
theorem dX7_takesTerm_23 : decode cX7_takesTerm 23 = .ok (.aload_n 0, 1) := by decide +kernel
theorem dX7_takesTerm_24 : decode cX7_takesTerm 24 = .ok (.getfield 58, 3) := by decide +kernel
theorem dX7_takesTerm_27 : decode cX7_takesTerm 27 = .ok (.iconst 1, 1) := by decide +kernel
theorem dX7_takesTerm_28 : decode cX7_takesTerm 28 = .ok (.isub, 1) := by decide +kernel
theorem dX7_takesTerm_29 : decode cX7_takesTerm 29 = .ok (.invokevirtual 89, 3) := by decide +kernel
theorem dX7_takesTerm_32 : decode cX7_takesTerm 32 = .ok (.invokestatic 93, 3) := by decide +kernel
theorem dX7_takesTerm_35 : decode cX7_takesTerm 35 = .ok (.iconst 3, 1) := by decide +kernel
theorem dX7_takesTerm_36 : decode cX7_takesTerm 36 = .ok (.if_icmp .eq 5, 3) := by decide +kernel
theorem dX7_takesTerm_39 : decode cX7_takesTerm 39 = .ok (.iconst 0, 1) := by decide +kernel
theorem dX7_takesTerm_40 : decode cX7_takesTerm 40 = .ok (.ireturn, 1) := by decide +kernel
theorem dX7_takesTerm_41 : decode cX7_takesTerm 41 = .ok (.aload_n 0, 1) := by decide +kernel
theorem dX7_takesTerm_42 : decode cX7_takesTerm 42 = .ok (.getfield 61, 3) := by decide +kernel
theorem dX7_takesTerm_45 : decode cX7_takesTerm 45 = .ok (.iconst 2, 1) := by decide +kernel
theorem dX7_takesTerm_46 : decode cX7_takesTerm 46 = .ok (.if_icmp .ne 29, 3) := by decide +kernel
theorem dX7_takesTerm_49 : decode cX7_takesTerm 49 = .ok (.aload_n 0, 1) := by decide +kernel
theorem dX7_takesTerm_50 : decode cX7_takesTerm 50 = .ok (.getfield 25, 3) := by decide +kernel
theorem dX7_takesTerm_53 : decode cX7_takesTerm 53 = .ok (.aload_n 0, 1) := by decide +kernel
theorem dX7_takesTerm_54 : decode cX7_takesTerm 54 = .ok (.getfield 58, 3) := by decide +kernel
theorem dX7_takesTerm_57 : decode cX7_takesTerm 57 = .ok (.isub, 1) := by decide +kernel
theorem dX7_takesTerm_58 : decode cX7_takesTerm 58 = .ok (.iconst 4, 1) := by decide +kernel
theorem dX7_takesTerm_59 : decode cX7_takesTerm 59 = .ok (.if_icmp .le 5, 3) := by decide +kernel
theorem dX7_takesTerm_62 : decode cX7_takesTerm 62 = .ok (.iconst 0, 1) := by decide +kernel
theorem dX7_takesTerm_63 : decode cX7_takesTerm 63 = .ok (.ireturn, 1) := by decide +kernel
theorem dX7_takesTerm_64 : decode cX7_takesTerm 64 = .ok (.aload_n 0, 1) := by decide +kernel
theorem dX7_takesTerm_65 : decode cX7_takesTerm 65 = .ok (.aload_n 0, 1) := by decide +kernel
theorem dX7_takesTerm_66 : decode cX7_takesTerm 66 = .ok (.invokevirtual 130, 3) := by decide +kernel
theorem dX7_takesTerm_69 : decode cX7_takesTerm 69 = .ok (.invokevirtual 74, 3) := by decide +kernel
theorem dX7_takesTerm_72 : decode cX7_takesTerm 72 = .ok (.goto 21, 3) := by decide +kernel
theorem dX7_takesTerm_75 : decode cX7_takesTerm 75 = .ok (.aload_n 0, 1) := by decide +kernel
theorem dX7_takesTerm_76 : decode cX7_takesTerm 76 = .ok (.invokevirtual 133, 3) := by decide +kernel
theorem dX7_takesTerm_79 : decode cX7_takesTerm 79 = .ok (.istore_n 1, 1) := by decide +kernel
theorem dX7_takesTerm_80 : decode cX7_takesTerm 80 = .ok (.iload_n 1, 1) := by decide +kernel
theorem dX7_takesTerm_81 : decode cX7_takesTerm 81 = .ok (.ifCond .ge 5, 3) := by decide +kernel
theorem dX7_takesTerm_84 : decode cX7_takesTerm 84 = .ok (.iconst 0, 1) := by decide +kernel
theorem dX7_takesTerm_85 : decode cX7_takesTerm 85 = .ok (.ireturn, 1) := by decide +kernel
theorem dX7_takesTerm_86 : decode cX7_takesTerm 86 = .ok (.aload_n 0, 1) := by decide +kernel
theorem dX7_takesTerm_87 : decode cX7_takesTerm 87 = .ok (.iconst (-1), 1) := by decide +kernel
theorem dX7_takesTerm_88 : decode cX7_takesTerm 88 = .ok (.iload_n 1, 1) := by decide +kernel
theorem dX7_takesTerm_89 : decode cX7_takesTerm 89 = .ok (.isub, 1) := by decide +kernel
theorem dX7_takesTerm_90 : decode cX7_takesTerm 90 = .ok (.invokevirtual 74, 3) := by decide +kernel
theorem dX7_takesTerm_93 : decode cX7_takesTerm 93 = .ok (.aload_n 0, 1) := by decide +kernel
theorem dX7_takesTerm_94 : decode cX7_takesTerm 94 = .ok (.dup, 1) := by decide +kernel
theorem dX7_takesTerm_95 : decode cX7_takesTerm 95 = .ok (.getfield 28, 3) := by decide +kernel
theorem dX7_takesTerm_98 : decode cX7_takesTerm 98 = .ok (.iconst 1, 1) := by decide +kernel
theorem dX7_takesTerm_99 : decode cX7_takesTerm 99 = .ok (.iadd, 1) := by decide +kernel
theorem dX7_takesTerm_100 : decode cX7_takesTerm 100 = .ok (.putfield 28, 3) := by decide +kernel
theorem dX7_takesTerm_103 : decode cX7_takesTerm 103 = .ok (.aload_n 0, 1) := by decide +kernel
theorem dX7_takesTerm_104 : decode cX7_takesTerm 104 = .ok (.invokevirtual 136, 3) := by decide +kernel
theorem dX7_takesTerm_107 : decode cX7_takesTerm 107 = .ok (.iconst 1, 1) := by decide +kernel
theorem dX7_takesTerm_108 : decode cX7_takesTerm 108 = .ok (.ireturn, 1) := by decide +kernel
theorem dX7_takesJoin_0 : decode cX7_takesJoin 0 = .ok (.aload_n 0, 1) := by decide +kernel
theorem dX7_takesJoin_1 : decode cX7_takesJoin 1 = .ok (.aload_n 0, 1) := by decide +kernel
theorem dX7_takesJoin_2 : decode cX7_takesJoin 2 = .ok (.getfield 58, 3) := by decide +kernel
theorem dX7_takesJoin_5 : decode cX7_takesJoin 5 = .ok (.invokevirtual 89, 3) := by decide +kernel
theorem dX7_takesJoin_8 : decode cX7_takesJoin 8 = .ok (.istore_n 1, 1) := by decide +kernel
theorem dX7_takesJoin_9 : decode cX7_takesJoin 9 = .ok (.aload_n 0, 1) := by decide +kernel
theorem dX7_takesJoin_10 : decode cX7_takesJoin 10 = .ok (.getfield 61, 3) := by decide +kernel
theorem dX7_takesJoin_13 : decode cX7_takesJoin 13 = .ok (.iconst 3, 1) := by decide +kernel
theorem dX7_takesJoin_14 : decode cX7_takesJoin 14 = .ok (.if_icmp .ne 14, 3) := by decide +kernel
theorem dX7_takesJoin_17 : decode cX7_takesJoin 17 = .ok (.iload_n 1, 1) := by decide +kernel
theorem dX7_takesJoin_18 : decode cX7_takesJoin 18 = .ok (.bipush 41, 2) := by decide +kernel
theorem dX7_takesJoin_20 : decode cX7_takesJoin 20 = .ok (.if_icmp .ne 8, 3) := by decide +kernel
theorem dX7_takesJoin_23 : decode cX7_takesJoin 23 = .ok (.aload_n 0, 1) := by decide +kernel
theorem dX7_takesJoin_24 : decode cX7_takesJoin 24 = .ok (.invokevirtual 139, 3) := by decide +kernel
theorem dX7_takesJoin_27 : decode cX7_takesJoin 27 = .ok (.ireturn, 1) := by decide +kernel
theorem dX7_takesJoin_28 : decode cX7_takesJoin 28 = .ok (.aload_n 0, 1) := by decide +kernel
theorem dX7_takesJoin_29 : decode cX7_takesJoin 29 = .ok (.getfield 61, 3) := by decide +kernel
theorem dX7_takesJoin_32 : decode cX7_takesJoin 32 = .ok (.iconst 3, 1) := by decide +kernel
theorem dX7_takesJoin_33 : decode cX7_takesJoin 33 = .ok (.if_icmp .ne 10, 3) := by decide +kernel
theorem dX7_takesJoin_36 : decode cX7_takesJoin 36 = .ok (.iload_n 1, 1) := by decide +kernel
theorem dX7_takesJoin_37 : decode cX7_takesJoin 37 = .ok (.invokestatic 142, 3) := by decide +kernel
theorem dX7_takesJoin_40 : decode cX7_takesJoin 40 = .ok (.goto 4, 3) := by decide +kernel
theorem dX7_takesJoin_43 : decode cX7_takesJoin 43 = .ok (.iconst 0, 1) := by decide +kernel
theorem dX7_takesJoin_44 : decode cX7_takesJoin 44 = .ok (.istore_n 2, 1) := by decide +kernel
theorem dX7_takesJoin_45 : decode cX7_takesJoin 45 = .ok (.iload_n 2, 1) := by decide +kernel
theorem dX7_takesJoin_46 : decode cX7_takesJoin 46 = .ok (.ifCond .ne 5, 3) := by decide +kernel
theorem dX7_takesJoin_49 : decode cX7_takesJoin 49 = .ok (.iconst 0, 1) := by decide +kernel
theorem dX7_takesJoin_50 : decode cX7_takesJoin 50 = .ok (.ireturn, 1) := by decide +kernel
theorem dX7_takesJoin_51 : decode cX7_takesJoin 51 = .ok (.iload_n 2, 1) := by decide +kernel
theorem dX7_takesJoin_52 : decode cX7_takesJoin 52 = .ok (.iconst 3, 1) := by decide +kernel
theorem dX7_takesJoin_53 : decode cX7_takesJoin 53 = .ok (.if_icmp .ne 9, 3) := by decide +kernel
theorem dX7_takesJoin_56 : decode cX7_takesJoin 56 = .ok (.iload_n 2, 1) := by decide +kernel
theorem dX7_takesJoin_57 : decode cX7_takesJoin 57 = .ok (.iconst 1, 1) := by decide +kernel
theorem dX7_takesJoin_58 : decode cX7_takesJoin 58 = .ok (.iadd, 1) := by decide +kernel
theorem dX7_takesJoin_59 : decode cX7_takesJoin 59 = .ok (.goto 4, 3) := by decide +kernel
theorem dX7_takesJoin_62 : decode cX7_takesJoin 62 = .ok (.iload_n 2, 1) := by decide +kernel
theorem dX7_takesJoin_63 : decode cX7_takesJoin 63 = .ok (.istore_n 3, 1) := by decide +kernel
theorem dX7_takesJoin_64 : decode cX7_takesJoin 64 = .ok (.aload_n 0, 1) := by decide +kernel
theorem dX7_takesJoin_65 : decode cX7_takesJoin 65 = .ok (.getfield 34, 3) := by decide +kernel
theorem dX7_takesJoin_68 : decode cX7_takesJoin 68 = .ok (.ifCond .le 39, 3) := by decide +kernel
theorem dX7_takesJoin_71 : decode cX7_takesJoin 71 = .ok (.aload_n 0, 1) := by decide +kernel
theorem dX7_takesJoin_72 : decode cX7_takesJoin 72 = .ok (.invokevirtual 71, 3) := by decide +kernel
theorem dX7_takesJoin_75 : decode cX7_takesJoin 75 = .ok (.invokestatic 142, 3) := by decide +kernel
theorem dX7_takesJoin_78 : decode cX7_takesJoin 78 = .ok (.iload_n 3, 1) := by decide +kernel
theorem dX7_takesJoin_79 : decode cX7_takesJoin 79 = .ok (.if_icmp .lt 28, 3) := by decide +kernel
theorem dX7_takesJoin_82 : decode cX7_takesJoin 82 = .ok (.aload_n 0, 1) := by decide +kernel
theorem dX7_takesJoin_83 : decode cX7_takesJoin 83 = .ok (.sipush (-1000), 3) := by decide +kernel
theorem dX7_takesJoin_86 : decode cX7_takesJoin 86 = .ok (.aload_n 0, 1) := by decide +kernel
theorem dX7_takesJoin_87 : decode cX7_takesJoin 87 = .ok (.invokevirtual 71, 3) := by decide +kernel
theorem dX7_takesJoin_90 : decode cX7_takesJoin 90 = .ok (.isub, 1) := by decide +kernel
theorem dX7_takesJoin_91 : decode cX7_takesJoin 91 = .ok (.invokevirtual 74, 3) := by decide +kernel
theorem dX7_takesJoin_94 : decode cX7_takesJoin 94 = .ok (.aload_n 0, 1) := by decide +kernel
theorem dX7_takesJoin_95 : decode cX7_takesJoin 95 = .ok (.dup, 1) := by decide +kernel
theorem dX7_takesJoin_96 : decode cX7_takesJoin 96 = .ok (.getfield 34, 3) := by decide +kernel
theorem dX7_takesJoin_99 : decode cX7_takesJoin 99 = .ok (.iconst 1, 1) := by decide +kernel
theorem dX7_takesJoin_100 : decode cX7_takesJoin 100 = .ok (.isub, 1) := by decide +kernel
theorem dX7_takesJoin_101 : decode cX7_takesJoin 101 = .ok (.putfield 34, 3) := by decide +kernel
theorem dX7_takesJoin_104 : decode cX7_takesJoin 104 = .ok (.goto (-40), 3) := by decide +kernel
theorem dX7_takesJoin_107 : decode cX7_takesJoin 107 = .ok (.iload_n 2, 1) := by decide +kernel
theorem dX7_takesJoin_108 : decode cX7_takesJoin 108 = .ok (.iconst 3, 1) := by decide +kernel
theorem dX7_takesJoin_109 : decode cX7_takesJoin 109 = .ok (.if_icmp .ne 16, 3) := by decide +kernel
theorem dX7_takesJoin_112 : decode cX7_takesJoin 112 = .ok (.aload_n 0, 1) := by decide +kernel
theorem dX7_takesJoin_113 : decode cX7_takesJoin 113 = .ok (.invokevirtual 71, 3) := by decide +kernel
theorem dX7_takesJoin_116 : decode cX7_takesJoin 116 = .ok (.invokestatic 142, 3) := by decide +kernel
theorem dX7_takesJoin_119 : decode cX7_takesJoin 119 = .ok (.iconst 3, 1) := by decide +kernel
theorem dX7_takesJoin_120 : decode cX7_takesJoin 120 = .ok (.if_icmp .ne 5, 3) := by decide +kernel
theorem dX7_takesJoin_123 : decode cX7_takesJoin 123 = .ok (.iconst 0, 1) := by decide +kernel
theorem dX7_takesJoin_124 : decode cX7_takesJoin 124 = .ok (.ireturn, 1) := by decide +kernel
theorem dX7_takesJoin_125 : decode cX7_takesJoin 125 = .ok (.aload_n 0, 1) := by decide +kernel
theorem dX7_takesJoin_126 : decode cX7_takesJoin 126 = .ok (.iload_n 1, 1) := by decide +kernel
theorem dX7_takesJoin_127 : decode cX7_takesJoin 127 = .ok (.invokevirtual 127, 3) := by decide +kernel
theorem dX7_takesJoin_130 : decode cX7_takesJoin 130 = .ok (.aload_n 0, 1) := by decide +kernel
theorem dX7_takesJoin_131 : decode cX7_takesJoin 131 = .ok (.iconst 1, 1) := by decide +kernel
theorem dX7_takesJoin_132 : decode cX7_takesJoin 132 = .ok (.putfield 43, 3) := by decide +kernel
theorem dX7_takesJoin_135 : decode cX7_takesJoin 135 = .ok (.iconst 1, 1) := by decide +kernel
theorem dX7_takesJoin_136 : decode cX7_takesJoin 136 = .ok (.ireturn, 1) := by decide +kernel
theorem dX7_takesEnd_0 : decode cX7_takesEnd 0 = .ok (.aload_n 0, 1) := by decide +kernel
theorem dX7_takesEnd_1 : decode cX7_takesEnd 1 = .ok (.getfield 37, 3) := by decide +kernel
theorem dX7_takesEnd_4 : decode cX7_takesEnd 4 = .ok (.ifCond .ne 5, 3) := by decide +kernel
theorem dX7_takesEnd_7 : decode cX7_takesEnd 7 = .ok (.iconst 0, 1) := by decide +kernel
theorem dX7_takesEnd_8 : decode cX7_takesEnd 8 = .ok (.ireturn, 1) := by decide +kernel
theorem dX7_takesEnd_9 : decode cX7_takesEnd 9 = .ok (.aload_n 0, 1) := by decide +kernel
theorem dX7_takesEnd_10 : decode cX7_takesEnd 10 = .ok (.getfield 34, 3) := by decide +kernel
theorem dX7_takesEnd_13 : decode cX7_takesEnd 13 = .ok (.ifCond .le 37, 3) := by decide +kernel
theorem dX7_takesEnd_16 : decode cX7_takesEnd 16 = .ok (.aload_n 0, 1) := by decide +kernel
theorem dX7_takesEnd_17 : decode cX7_takesEnd 17 = .ok (.invokevirtual 71, 3) := by decide +kernel
theorem dX7_takesEnd_20 : decode cX7_takesEnd 20 = .ok (.bipush 40, 2) := by decide +kernel
theorem dX7_takesEnd_22 : decode cX7_takesEnd 22 = .ok (.if_icmp .eq 28, 3) := by decide +kernel
theorem dX7_takesEnd_25 : decode cX7_takesEnd 25 = .ok (.aload_n 0, 1) := by decide +kernel
theorem dX7_takesEnd_26 : decode cX7_takesEnd 26 = .ok (.sipush (-1000), 3) := by decide +kernel
theorem dX7_takesEnd_29 : decode cX7_takesEnd 29 = .ok (.aload_n 0, 1) := by decide +kernel
theorem dX7_takesEnd_30 : decode cX7_takesEnd 30 = .ok (.invokevirtual 71, 3) := by decide +kernel
theorem dX7_takesEnd_33 : decode cX7_takesEnd 33 = .ok (.isub, 1) := by decide +kernel
theorem dX7_takesEnd_34 : decode cX7_takesEnd 34 = .ok (.invokevirtual 74, 3) := by decide +kernel
theorem dX7_takesEnd_37 : decode cX7_takesEnd 37 = .ok (.aload_n 0, 1) := by decide +kernel
theorem dX7_takesEnd_38 : decode cX7_takesEnd 38 = .ok (.dup, 1) := by decide +kernel
theorem dX7_takesEnd_39 : decode cX7_takesEnd 39 = .ok (.getfield 34, 3) := by decide +kernel
theorem dX7_takesEnd_42 : decode cX7_takesEnd 42 = .ok (.iconst 1, 1) := by decide +kernel
theorem dX7_takesEnd_43 : decode cX7_takesEnd 43 = .ok (.isub, 1) := by decide +kernel
theorem dX7_takesEnd_44 : decode cX7_takesEnd 44 = .ok (.putfield 34, 3) := by decide +kernel
theorem dX7_takesEnd_47 : decode cX7_takesEnd 47 = .ok (.goto (-38), 3) := by decide +kernel
theorem dX7_takesEnd_50 : decode cX7_takesEnd 50 = .ok (.aload_n 0, 1) := by decide +kernel
theorem dX7_takesEnd_51 : decode cX7_takesEnd 51 = .ok (.getfield 34, 3) := by decide +kernel
theorem dX7_takesEnd_54 : decode cX7_takesEnd 54 = .ok (.ifCond .le 13, 3) := by decide +kernel
theorem dX7_takesEnd_57 : decode cX7_takesEnd 57 = .ok (.aload_n 0, 1) := by decide +kernel
theorem dX7_takesEnd_58 : decode cX7_takesEnd 58 = .ok (.dup, 1) := by decide +kernel
theorem dX7_takesEnd_59 : decode cX7_takesEnd 59 = .ok (.getfield 34, 3) := by decide +kernel
theorem dX7_takesEnd_62 : decode cX7_takesEnd 62 = .ok (.iconst 1, 1) := by decide +kernel
theorem dX7_takesEnd_63 : decode cX7_takesEnd 63 = .ok (.isub, 1) := by decide +kernel
theorem dX7_takesEnd_64 : decode cX7_takesEnd 64 = .ok (.putfield 34, 3) := by decide +kernel
theorem dX7_takesEnd_67 : decode cX7_takesEnd 67 = .ok (.aload_n 0, 1) := by decide +kernel
theorem dX7_takesEnd_68 : decode cX7_takesEnd 68 = .ok (.dup, 1) := by decide +kernel
theorem dX7_takesEnd_69 : decode cX7_takesEnd 69 = .ok (.getfield 37, 3) := by decide +kernel
theorem dX7_takesEnd_72 : decode cX7_takesEnd 72 = .ok (.iconst 1, 1) := by decide +kernel
theorem dX7_takesEnd_73 : decode cX7_takesEnd 73 = .ok (.isub, 1) := by decide +kernel
theorem dX7_takesEnd_74 : decode cX7_takesEnd 74 = .ok (.putfield 37, 3) := by decide +kernel
theorem dX7_takesEnd_77 : decode cX7_takesEnd 77 = .ok (.aload_n 0, 1) := by decide +kernel
theorem dX7_takesEnd_78 : decode cX7_takesEnd 78 = .ok (.invokevirtual 136, 3) := by decide +kernel
theorem dX7_takesEnd_81 : decode cX7_takesEnd 81 = .ok (.iconst 1, 1) := by decide +kernel
theorem dX7_takesEnd_82 : decode cX7_takesEnd 82 = .ok (.ireturn, 1) := by decide +kernel
theorem dX7_endPiece_0 : decode cX7_endPiece 0 = .ok (.aload_n 0, 1) := by decide +kernel
theorem dX7_endPiece_1 : decode cX7_endPiece 1 = .ok (.getfield 34, 3) := by decide +kernel
theorem dX7_endPiece_4 : decode cX7_endPiece 4 = .ok (.ifCond .le 47, 3) := by decide +kernel
theorem dX7_endPiece_7 : decode cX7_endPiece 7 = .ok (.aload_n 0, 1) := by decide +kernel
theorem dX7_endPiece_8 : decode cX7_endPiece 8 = .ok (.invokevirtual 71, 3) := by decide +kernel
theorem dX7_endPiece_11 : decode cX7_endPiece 11 = .ok (.bipush 33, 2) := by decide +kernel
theorem dX7_endPiece_13 : decode cX7_endPiece 13 = .ok (.if_icmp .ne 38, 3) := by decide +kernel
theorem dX7_endPiece_16 : decode cX7_endPiece 16 = .ok (.aload_n 0, 1) := by decide +kernel
theorem dX7_endPiece_17 : decode cX7_endPiece 17 = .ok (.sipush (-1000), 3) := by decide +kernel
theorem dX7_endPiece_20 : decode cX7_endPiece 20 = .ok (.aload_n 0, 1) := by decide +kernel
theorem dX7_endPiece_21 : decode cX7_endPiece 21 = .ok (.invokevirtual 71, 3) := by decide +kernel
theorem dX7_endPiece_24 : decode cX7_endPiece 24 = .ok (.isub, 1) := by decide +kernel
theorem dX7_endPiece_25 : decode cX7_endPiece 25 = .ok (.invokevirtual 74, 3) := by decide +kernel
theorem dX7_endPiece_28 : decode cX7_endPiece 28 = .ok (.aload_n 0, 1) := by decide +kernel
theorem dX7_endPiece_29 : decode cX7_endPiece 29 = .ok (.dup, 1) := by decide +kernel
theorem dX7_endPiece_30 : decode cX7_endPiece 30 = .ok (.getfield 40, 3) := by decide +kernel
theorem dX7_endPiece_33 : decode cX7_endPiece 33 = .ok (.iconst 1, 1) := by decide +kernel
theorem dX7_endPiece_34 : decode cX7_endPiece 34 = .ok (.isub, 1) := by decide +kernel
theorem dX7_endPiece_35 : decode cX7_endPiece 35 = .ok (.putfield 40, 3) := by decide +kernel
theorem dX7_endPiece_38 : decode cX7_endPiece 38 = .ok (.aload_n 0, 1) := by decide +kernel
theorem dX7_endPiece_39 : decode cX7_endPiece 39 = .ok (.dup, 1) := by decide +kernel
theorem dX7_endPiece_40 : decode cX7_endPiece 40 = .ok (.getfield 34, 3) := by decide +kernel
theorem dX7_endPiece_43 : decode cX7_endPiece 43 = .ok (.iconst 1, 1) := by decide +kernel
theorem dX7_endPiece_44 : decode cX7_endPiece 44 = .ok (.isub, 1) := by decide +kernel
theorem dX7_endPiece_45 : decode cX7_endPiece 45 = .ok (.putfield 34, 3) := by decide +kernel
theorem dX7_endPiece_48 : decode cX7_endPiece 48 = .ok (.goto (-48), 3) := by decide +kernel
theorem dX7_endPiece_51 : decode cX7_endPiece 51 = .ok (.aload_n 0, 1) := by decide +kernel
theorem dX7_endPiece_52 : decode cX7_endPiece 52 = .ok (.iconst 0, 1) := by decide +kernel
theorem dX7_endPiece_53 : decode cX7_endPiece 53 = .ok (.putfield 43, 3) := by decide +kernel
theorem dX7_endPiece_56 : decode cX7_endPiece 56 = .ok (.return_, 1) := by decide +kernel
theorem dX7_rankOf_0 : decode cX7_rankOf 0 = .ok (.iload_n 0, 1) := by decide +kernel
theorem dX7_rankOf_1 : decode cX7_rankOf 1 = .ok (.lookupswitch 93 #[(38, 85), (42, 91), (43, 89), (45, 89), (47, 91), (60, 87), (61, 87), (62, 87), (124, 83)], 83) := by decide +kernel
theorem dX7_rankOf_84 : decode cX7_rankOf 84 = .ok (.iconst 1, 1) := by decide +kernel
theorem dX7_rankOf_85 : decode cX7_rankOf 85 = .ok (.ireturn, 1) := by decide +kernel
theorem dX7_rankOf_86 : decode cX7_rankOf 86 = .ok (.iconst 2, 1) := by decide +kernel
theorem dX7_rankOf_87 : decode cX7_rankOf 87 = .ok (.ireturn, 1) := by decide +kernel
theorem dX7_rankOf_88 : decode cX7_rankOf 88 = .ok (.iconst 3, 1) := by decide +kernel
theorem dX7_rankOf_89 : decode cX7_rankOf 89 = .ok (.ireturn, 1) := by decide +kernel
theorem dX7_rankOf_90 : decode cX7_rankOf 90 = .ok (.iconst 4, 1) := by decide +kernel
theorem dX7_rankOf_91 : decode cX7_rankOf 91 = .ok (.ireturn, 1) := by decide +kernel
theorem dX7_rankOf_92 : decode cX7_rankOf 92 = .ok (.iconst 5, 1) := by decide +kernel
theorem dX7_rankOf_93 : decode cX7_rankOf 93 = .ok (.ireturn, 1) := by decide +kernel
theorem dX7_rankOf_94 : decode cX7_rankOf 94 = .ok (.iconst 0, 1) := by decide +kernel
theorem dX7_rankOf_95 : decode cX7_rankOf 95 = .ok (.ireturn, 1) := by decide +kernel
theorem dX7_top_0 : decode cX7_top 0 = .ok (.aload_n 0, 1) := by decide +kernel
theorem dX7_top_1 : decode cX7_top 1 = .ok (.getfield 34, 3) := by decide +kernel
theorem dX7_top_4 : decode cX7_top 4 = .ok (.ifCond .le 26, 3) := by decide +kernel
theorem dX7_top_7 : decode cX7_top 7 = .ok (.aload_n 0, 1) := by decide +kernel
theorem dX7_top_8 : decode cX7_top 8 = .ok (.getfield 34, 3) := by decide +kernel
theorem dX7_top_11 : decode cX7_top 11 = .ok (.bipush 96, 2) := by decide +kernel
theorem dX7_top_13 : decode cX7_top 13 = .ok (.if_icmp .gt 17, 3) := by decide +kernel
theorem dX7_top_16 : decode cX7_top 16 = .ok (.aload_n 0, 1) := by decide +kernel
theorem dX7_top_17 : decode cX7_top 17 = .ok (.getfield 22, 3) := by decide +kernel
theorem dX7_top_20 : decode cX7_top 20 = .ok (.aload_n 0, 1) := by decide +kernel
theorem dX7_top_21 : decode cX7_top 21 = .ok (.getfield 34, 3) := by decide +kernel
theorem dX7_top_24 : decode cX7_top 24 = .ok (.iconst 1, 1) := by decide +kernel
theorem dX7_top_25 : decode cX7_top 25 = .ok (.isub, 1) := by decide +kernel
theorem dX7_top_26 : decode cX7_top 26 = .ok (.iaload, 1) := by decide +kernel
theorem dX7_top_27 : decode cX7_top 27 = .ok (.goto 4, 3) := by decide +kernel
theorem dX7_top_30 : decode cX7_top 30 = .ok (.iconst 0, 1) := by decide +kernel
theorem dX7_top_31 : decode cX7_top 31 = .ok (.ireturn, 1) := by decide +kernel
theorem dX7_push_0 : decode cX7_push 0 = .ok (.aload_n 0, 1) := by decide +kernel
theorem dX7_push_1 : decode cX7_push 1 = .ok (.getfield 34, 3) := by decide +kernel
theorem dX7_push_4 : decode cX7_push 4 = .ok (.bipush 96, 2) := by decide +kernel
theorem dX7_push_6 : decode cX7_push 6 = .ok (.if_icmp .ge 23, 3) := by decide +kernel
theorem dX7_push_9 : decode cX7_push 9 = .ok (.aload_n 0, 1) := by decide +kernel
theorem dX7_push_10 : decode cX7_push 10 = .ok (.getfield 22, 3) := by decide +kernel
theorem dX7_push_13 : decode cX7_push 13 = .ok (.aload_n 0, 1) := by decide +kernel
theorem dX7_push_14 : decode cX7_push 14 = .ok (.getfield 34, 3) := by decide +kernel
theorem dX7_push_17 : decode cX7_push 17 = .ok (.iload_n 1, 1) := by decide +kernel
theorem dX7_push_18 : decode cX7_push 18 = .ok (.iastore, 1) := by decide +kernel
theorem dX7_push_19 : decode cX7_push 19 = .ok (.aload_n 0, 1) := by decide +kernel
theorem dX7_push_20 : decode cX7_push 20 = .ok (.dup, 1) := by decide +kernel
theorem dX7_push_21 : decode cX7_push 21 = .ok (.getfield 34, 3) := by decide +kernel
theorem dX7_push_24 : decode cX7_push 24 = .ok (.iconst 1, 1) := by decide +kernel
theorem dX7_push_25 : decode cX7_push 25 = .ok (.iadd, 1) := by decide +kernel
theorem dX7_push_26 : decode cX7_push 26 = .ok (.putfield 34, 3) := by decide +kernel
theorem dX7_push_29 : decode cX7_push 29 = .ok (.return_, 1) := by decide +kernel
theorem dX7_emit_0 : decode cX7_emit 0 = .ok (.aload_n 0, 1) := by decide +kernel
theorem dX7_emit_1 : decode cX7_emit 1 = .ok (.getfield 31, 3) := by decide +kernel
theorem dX7_emit_4 : decode cX7_emit 4 = .ok (.bipush 96, 2) := by decide +kernel
theorem dX7_emit_6 : decode cX7_emit 6 = .ok (.if_icmp .ge 23, 3) := by decide +kernel
theorem dX7_emit_9 : decode cX7_emit 9 = .ok (.aload_n 0, 1) := by decide +kernel
theorem dX7_emit_10 : decode cX7_emit 10 = .ok (.getfield 19, 3) := by decide +kernel
theorem dX7_emit_13 : decode cX7_emit 13 = .ok (.aload_n 0, 1) := by decide +kernel
theorem dX7_emit_14 : decode cX7_emit 14 = .ok (.getfield 31, 3) := by decide +kernel
theorem dX7_emit_17 : decode cX7_emit 17 = .ok (.iload_n 1, 1) := by decide +kernel
theorem dX7_emit_18 : decode cX7_emit 18 = .ok (.iastore, 1) := by decide +kernel
theorem dX7_emit_19 : decode cX7_emit 19 = .ok (.aload_n 0, 1) := by decide +kernel
theorem dX7_emit_20 : decode cX7_emit 20 = .ok (.dup, 1) := by decide +kernel
theorem dX7_emit_21 : decode cX7_emit 21 = .ok (.getfield 31, 3) := by decide +kernel
theorem dX7_emit_24 : decode cX7_emit 24 = .ok (.iconst 1, 1) := by decide +kernel
theorem dX7_emit_25 : decode cX7_emit 25 = .ok (.iadd, 1) := by decide +kernel
theorem dX7_emit_26 : decode cX7_emit 26 = .ok (.putfield 31, 3) := by decide +kernel
theorem dX7_emit_29 : decode cX7_emit 29 = .ok (.return_, 1) := by decide +kernel
theorem dX8_init_0 : decode cX8_init 0 = .ok (.aload_n 0, 1) := by decide +kernel
theorem dX8_init_1 : decode cX8_init 1 = .ok (.invokespecial 3, 3) := by decide +kernel
theorem dX8_init_4 : decode cX8_init 4 = .ok (.aload_n 0, 1) := by decide +kernel
theorem dX8_init_5 : decode cX8_init 5 = .ok (.iload_n 1, 1) := by decide +kernel
theorem dX8_init_6 : decode cX8_init 6 = .ok (.putfield 9, 3) := by decide +kernel
theorem dX8_init_9 : decode cX8_init 9 = .ok (.aload_n 0, 1) := by decide +kernel
theorem dX8_init_10 : decode cX8_init 10 = .ok (.iload_n 2, 1) := by decide +kernel
theorem dX8_init_11 : decode cX8_init 11 = .ok (.putfield 15, 3) := by decide +kernel
theorem dX8_init_14 : decode cX8_init 14 = .ok (.aload_n 0, 1) := by decide +kernel
theorem dX8_init_15 : decode cX8_init 15 = .ok (.aload_n 3, 1) := by decide +kernel
theorem dX8_init_16 : decode cX8_init 16 = .ok (.putfield 18, 3) := by decide +kernel
theorem dX8_init_19 : decode cX8_init 19 = .ok (.aload_n 0, 1) := by decide +kernel
theorem dX8_init_20 : decode cX8_init 20 = .ok (.aload_n 3, 1) := by decide +kernel
theorem dX8_init_21 : decode cX8_init 21 = .ok (.arraylength, 1) := by decide +kernel
theorem dX8_init_22 : decode cX8_init 22 = .ok (.newarray .int, 2) := by decide +kernel
theorem dX8_init_24 : decode cX8_init 24 = .ok (.putfield 22, 3) := by decide +kernel
theorem dX8_init_27 : decode cX8_init 27 = .ok (.return_, 1) := by decide +kernel
theorem dX8_gives_0 : decode cX8_gives 0 = .ok (.iconst 0, 1) := by decide +kernel
theorem dX8_gives_1 : decode cX8_gives 1 = .ok (.istore 5, 2) := by decide +kernel
theorem dX8_gives_3 : decode cX8_gives 3 = .ok (.iconst 0, 1) := by decide +kernel
theorem dX8_gives_4 : decode cX8_gives 4 = .ok (.istore 6, 2) := by decide +kernel
theorem dX8_gives_6 : decode cX8_gives 6 = .ok (.iload 6, 2) := by decide +kernel
theorem dX8_gives_8 : decode cX8_gives 8 = .ok (.aload_n 0, 1) := by decide +kernel
theorem dX8_gives_9 : decode cX8_gives 9 = .ok (.getfield 18, 3) := by decide +kernel
theorem dX8_gives_12 : decode cX8_gives 12 = .ok (.arraylength, 1) := by decide +kernel
theorem dX8_gives_13 : decode cX8_gives 13 = .ok (.if_icmp .ge 156, 3) := by decide +kernel
theorem dX8_gives_16 : decode cX8_gives 16 = .ok (.aload_n 0, 1) := by decide +kernel
theorem dX8_gives_17 : decode cX8_gives 17 = .ok (.getfield 18, 3) := by decide +kernel
theorem dX8_gives_20 : decode cX8_gives 20 = .ok (.iload 6, 2) := by decide +kernel
theorem dX8_gives_22 : decode cX8_gives 22 = .ok (.iaload, 1) := by decide +kernel
theorem dX8_gives_23 : decode cX8_gives 23 = .ok (.istore 7, 2) := by decide +kernel
theorem dX8_gives_25 : decode cX8_gives 25 = .ok (.iload 7, 2) := by decide +kernel
theorem dX8_gives_27 : decode cX8_gives 27 = .ok (.sipush (-1000), 3) := by decide +kernel
theorem dX8_gives_30 : decode cX8_gives 30 = .ok (.if_icmp .le 48, 3) := by decide +kernel
theorem dX8_gives_33 : decode cX8_gives 33 = .ok (.iload 5, 2) := by decide +kernel
theorem dX8_gives_35 : decode cX8_gives 35 = .ok (.aload_n 0, 1) := by decide +kernel
theorem dX8_gives_36 : decode cX8_gives 36 = .ok (.getfield 22, 3) := by decide +kernel
theorem dX8_gives_39 : decode cX8_gives 39 = .ok (.arraylength, 1) := by decide +kernel
theorem dX8_gives_40 : decode cX8_gives 40 = .ok (.if_icmp .ge 38, 3) := by decide +kernel
theorem dX8_gives_43 : decode cX8_gives 43 = .ok (.aload_n 0, 1) := by decide +kernel
theorem dX8_gives_44 : decode cX8_gives 44 = .ok (.getfield 22, 3) := by decide +kernel
theorem dX8_gives_47 : decode cX8_gives 47 = .ok (.iload 5, 2) := by decide +kernel
theorem dX8_gives_49 : decode cX8_gives 49 = .ok (.iload 7, 2) := by decide +kernel
theorem dX8_gives_51 : decode cX8_gives 51 = .ok (.ifCond .lt 8, 3) := by decide +kernel
theorem dX8_gives_54 : decode cX8_gives 54 = .ok (.iload 7, 2) := by decide +kernel
theorem dX8_gives_56 : decode cX8_gives 56 = .ok (.goto 15, 3) := by decide +kernel
theorem dX8_gives_59 : decode cX8_gives 59 = .ok (.iconst (-1), 1) := by decide +kernel
theorem dX8_gives_60 : decode cX8_gives 60 = .ok (.iload 7, 2) := by decide +kernel
theorem dX8_gives_62 : decode cX8_gives 62 = .ok (.isub, 1) := by decide +kernel
theorem dX8_gives_63 : decode cX8_gives 63 = .ok (.iload_n 1, 1) := by decide +kernel
theorem dX8_gives_64 : decode cX8_gives 64 = .ok (.iload_n 2, 1) := by decide +kernel
theorem dX8_gives_65 : decode cX8_gives 65 = .ok (.iload_n 3, 1) := by decide +kernel
theorem dX8_gives_66 : decode cX8_gives 66 = .ok (.iload 4, 2) := by decide +kernel
theorem dX8_gives_68 : decode cX8_gives 68 = .ok (.invokestatic 25, 3) := by decide +kernel
theorem dX8_gives_71 : decode cX8_gives 71 = .ok (.iastore, 1) := by decide +kernel
theorem dX8_gives_72 : decode cX8_gives 72 = .ok (.iinc 5 1, 3) := by decide +kernel
theorem dX8_gives_75 : decode cX8_gives 75 = .ok (.goto 88, 3) := by decide +kernel
theorem dX8_gives_78 : decode cX8_gives 78 = .ok (.iload 7, 2) := by decide +kernel
theorem dX8_gives_80 : decode cX8_gives 80 = .ok (.sipush (-1033), 3) := by decide +kernel
theorem dX8_gives_83 : decode cX8_gives 83 = .ok (.if_icmp .ne 37, 3) := by decide +kernel
theorem dX8_gives_86 : decode cX8_gives 86 = .ok (.iload 5, 2) := by decide +kernel
theorem dX8_gives_88 : decode cX8_gives 88 = .ok (.ifCond .le 32, 3) := by decide +kernel
theorem dX8_gives_91 : decode cX8_gives 91 = .ok (.aload_n 0, 1) := by decide +kernel
theorem dX8_gives_92 : decode cX8_gives 92 = .ok (.getfield 22, 3) := by decide +kernel
theorem dX8_gives_95 : decode cX8_gives 95 = .ok (.iload 5, 2) := by decide +kernel
theorem dX8_gives_97 : decode cX8_gives 97 = .ok (.iconst 1, 1) := by decide +kernel
theorem dX8_gives_98 : decode cX8_gives 98 = .ok (.isub, 1) := by decide +kernel
theorem dX8_gives_99 : decode cX8_gives 99 = .ok (.aload_n 0, 1) := by decide +kernel
theorem dX8_gives_100 : decode cX8_gives 100 = .ok (.getfield 22, 3) := by decide +kernel
theorem dX8_gives_103 : decode cX8_gives 103 = .ok (.iload 5, 2) := by decide +kernel
theorem dX8_gives_105 : decode cX8_gives 105 = .ok (.iconst 1, 1) := by decide +kernel
theorem dX8_gives_106 : decode cX8_gives 106 = .ok (.isub, 1) := by decide +kernel
theorem dX8_gives_107 : decode cX8_gives 107 = .ok (.iaload, 1) := by decide +kernel
theorem dX8_gives_108 : decode cX8_gives 108 = .ok (.ifCond .ne 7, 3) := by decide +kernel
theorem dX8_gives_111 : decode cX8_gives 111 = .ok (.iconst 1, 1) := by decide +kernel
theorem dX8_gives_112 : decode cX8_gives 112 = .ok (.goto 4, 3) := by decide +kernel
theorem dX8_gives_115 : decode cX8_gives 115 = .ok (.iconst 0, 1) := by decide +kernel
theorem dX8_gives_116 : decode cX8_gives 116 = .ok (.iastore, 1) := by decide +kernel
theorem dX8_gives_117 : decode cX8_gives 117 = .ok (.goto 46, 3) := by decide +kernel
theorem dX8_gives_120 : decode cX8_gives 120 = .ok (.iload 5, 2) := by decide +kernel
theorem dX8_gives_122 : decode cX8_gives 122 = .ok (.iconst 1, 1) := by decide +kernel
theorem dX8_gives_123 : decode cX8_gives 123 = .ok (.if_icmp .le 40, 3) := by decide +kernel
theorem dX8_gives_126 : decode cX8_gives 126 = .ok (.iinc 5 (-1), 3) := by decide +kernel
theorem dX8_gives_129 : decode cX8_gives 129 = .ok (.aload_n 0, 1) := by decide +kernel
theorem dX8_gives_130 : decode cX8_gives 130 = .ok (.getfield 22, 3) := by decide +kernel
theorem dX8_gives_133 : decode cX8_gives 133 = .ok (.iload 5, 2) := by decide +kernel
theorem dX8_gives_135 : decode cX8_gives 135 = .ok (.iconst 1, 1) := by decide +kernel
theorem dX8_gives_136 : decode cX8_gives 136 = .ok (.isub, 1) := by decide +kernel
theorem dX8_gives_137 : decode cX8_gives 137 = .ok (.sipush (-1000), 3) := by decide +kernel
theorem dX8_gives_140 : decode cX8_gives 140 = .ok (.iload 7, 2) := by decide +kernel
theorem dX8_gives_142 : decode cX8_gives 142 = .ok (.isub, 1) := by decide +kernel
theorem dX8_gives_143 : decode cX8_gives 143 = .ok (.aload_n 0, 1) := by decide +kernel
theorem dX8_gives_144 : decode cX8_gives 144 = .ok (.getfield 22, 3) := by decide +kernel
theorem dX8_gives_147 : decode cX8_gives 147 = .ok (.iload 5, 2) := by decide +kernel
theorem dX8_gives_149 : decode cX8_gives 149 = .ok (.iconst 1, 1) := by decide +kernel
theorem dX8_gives_150 : decode cX8_gives 150 = .ok (.isub, 1) := by decide +kernel
theorem dX8_gives_151 : decode cX8_gives 151 = .ok (.iaload, 1) := by decide +kernel
theorem dX8_gives_152 : decode cX8_gives 152 = .ok (.aload_n 0, 1) := by decide +kernel
theorem dX8_gives_153 : decode cX8_gives 153 = .ok (.getfield 22, 3) := by decide +kernel
theorem dX8_gives_156 : decode cX8_gives 156 = .ok (.iload 5, 2) := by decide +kernel
theorem dX8_gives_158 : decode cX8_gives 158 = .ok (.iaload, 1) := by decide +kernel
theorem dX8_gives_159 : decode cX8_gives 159 = .ok (.invokestatic 29, 3) := by decide +kernel
theorem dX8_gives_162 : decode cX8_gives 162 = .ok (.iastore, 1) := by decide +kernel
theorem dX8_gives_163 : decode cX8_gives 163 = .ok (.iinc 6 1, 3) := by decide +kernel
theorem dX8_gives_166 : decode cX8_gives 166 = .ok (.goto (-160), 3) := by decide +kernel
theorem dX8_gives_169 : decode cX8_gives 169 = .ok (.iload 5, 2) := by decide +kernel
theorem dX8_gives_171 : decode cX8_gives 171 = .ok (.ifCond .le 12, 3) := by decide +kernel
theorem dX8_gives_174 : decode cX8_gives 174 = .ok (.aload_n 0, 1) := by decide +kernel
theorem dX8_gives_175 : decode cX8_gives 175 = .ok (.getfield 22, 3) := by decide +kernel
theorem dX8_gives_178 : decode cX8_gives 178 = .ok (.iconst 0, 1) := by decide +kernel
theorem dX8_gives_179 : decode cX8_gives 179 = .ok (.iaload, 1) := by decide +kernel
theorem dX8_gives_180 : decode cX8_gives 180 = .ok (.goto 4, 3) := by decide +kernel
theorem dX8_gives_183 : decode cX8_gives 183 = .ok (.iconst 0, 1) := by decide +kernel
theorem dX8_gives_184 : decode cX8_gives 184 = .ok (.ireturn, 1) := by decide +kernel
theorem dX8_named_0 : decode cX8_named 0 = .ok (.iload_n 0, 1) := by decide +kernel
theorem dX8_named_1 : decode cX8_named 1 = .ok (.tableswitch 33 0 2 #[27, 29, 31], 27) := by decide +kernel
theorem dX8_named_28 : decode cX8_named 28 = .ok (.iload_n 1, 1) := by decide +kernel
theorem dX8_named_29 : decode cX8_named 29 = .ok (.ireturn, 1) := by decide +kernel
theorem dX8_named_30 : decode cX8_named 30 = .ok (.iload_n 2, 1) := by decide +kernel
theorem dX8_named_31 : decode cX8_named 31 = .ok (.ireturn, 1) := by decide +kernel
theorem dX8_named_32 : decode cX8_named 32 = .ok (.iload_n 3, 1) := by decide +kernel
theorem dX8_named_33 : decode cX8_named 33 = .ok (.ireturn, 1) := by decide +kernel
theorem dX8_named_34 : decode cX8_named 34 = .ok (.iload 4, 2) := by decide +kernel
theorem dX8_named_36 : decode cX8_named 36 = .ok (.ireturn, 1) := by decide +kernel
theorem dX8_joined_0 : decode cX8_joined 0 = .ok (.iload_n 0, 1) := by decide +kernel
theorem dX8_joined_1 : decode cX8_joined 1 = .ok (.lookupswitch 168 #[(38, 97), (42, 152), (43, 144), (45, 148), (47, 156), (60, 111), (61, 122), (62, 133), (124, 83)], 83) := by decide +kernel
theorem dX8_joined_84 : decode cX8_joined 84 = .ok (.iload_n 1, 1) := by decide +kernel
theorem dX8_joined_85 : decode cX8_joined 85 = .ok (.ifCond .ne 7, 3) := by decide +kernel
theorem dX8_joined_88 : decode cX8_joined 88 = .ok (.iload_n 2, 1) := by decide +kernel
theorem dX8_joined_89 : decode cX8_joined 89 = .ok (.ifCond .eq 7, 3) := by decide +kernel
theorem dX8_joined_92 : decode cX8_joined 92 = .ok (.iconst 1, 1) := by decide +kernel
theorem dX8_joined_93 : decode cX8_joined 93 = .ok (.goto 4, 3) := by decide +kernel
theorem dX8_joined_96 : decode cX8_joined 96 = .ok (.iconst 0, 1) := by decide +kernel
theorem dX8_joined_97 : decode cX8_joined 97 = .ok (.ireturn, 1) := by decide +kernel
theorem dX8_joined_98 : decode cX8_joined 98 = .ok (.iload_n 1, 1) := by decide +kernel
theorem dX8_joined_99 : decode cX8_joined 99 = .ok (.ifCond .eq 11, 3) := by decide +kernel
theorem dX8_joined_102 : decode cX8_joined 102 = .ok (.iload_n 2, 1) := by decide +kernel
theorem dX8_joined_103 : decode cX8_joined 103 = .ok (.ifCond .eq 7, 3) := by decide +kernel
theorem dX8_joined_106 : decode cX8_joined 106 = .ok (.iconst 1, 1) := by decide +kernel
theorem dX8_joined_107 : decode cX8_joined 107 = .ok (.goto 4, 3) := by decide +kernel
theorem dX8_joined_110 : decode cX8_joined 110 = .ok (.iconst 0, 1) := by decide +kernel
theorem dX8_joined_111 : decode cX8_joined 111 = .ok (.ireturn, 1) := by decide +kernel
theorem dX8_joined_112 : decode cX8_joined 112 = .ok (.iload_n 1, 1) := by decide +kernel
theorem dX8_joined_113 : decode cX8_joined 113 = .ok (.iload_n 2, 1) := by decide +kernel
theorem dX8_joined_114 : decode cX8_joined 114 = .ok (.if_icmp .ge 7, 3) := by decide +kernel
theorem dX8_joined_117 : decode cX8_joined 117 = .ok (.iconst 1, 1) := by decide +kernel
theorem dX8_joined_118 : decode cX8_joined 118 = .ok (.goto 4, 3) := by decide +kernel
theorem dX8_joined_121 : decode cX8_joined 121 = .ok (.iconst 0, 1) := by decide +kernel
theorem dX8_joined_122 : decode cX8_joined 122 = .ok (.ireturn, 1) := by decide +kernel
theorem dX8_joined_123 : decode cX8_joined 123 = .ok (.iload_n 1, 1) := by decide +kernel
theorem dX8_joined_124 : decode cX8_joined 124 = .ok (.iload_n 2, 1) := by decide +kernel
theorem dX8_joined_125 : decode cX8_joined 125 = .ok (.if_icmp .ne 7, 3) := by decide +kernel
theorem dX8_joined_128 : decode cX8_joined 128 = .ok (.iconst 1, 1) := by decide +kernel
theorem dX8_joined_129 : decode cX8_joined 129 = .ok (.goto 4, 3) := by decide +kernel
theorem dX8_joined_132 : decode cX8_joined 132 = .ok (.iconst 0, 1) := by decide +kernel
theorem dX8_joined_133 : decode cX8_joined 133 = .ok (.ireturn, 1) := by decide +kernel
theorem dX8_joined_134 : decode cX8_joined 134 = .ok (.iload_n 1, 1) := by decide +kernel
theorem dX8_joined_135 : decode cX8_joined 135 = .ok (.iload_n 2, 1) := by decide +kernel
theorem dX8_joined_136 : decode cX8_joined 136 = .ok (.if_icmp .le 7, 3) := by decide +kernel
theorem dX8_joined_139 : decode cX8_joined 139 = .ok (.iconst 1, 1) := by decide +kernel
theorem dX8_joined_140 : decode cX8_joined 140 = .ok (.goto 4, 3) := by decide +kernel
theorem dX8_joined_143 : decode cX8_joined 143 = .ok (.iconst 0, 1) := by decide +kernel
theorem dX8_joined_144 : decode cX8_joined 144 = .ok (.ireturn, 1) := by decide +kernel
theorem dX8_joined_145 : decode cX8_joined 145 = .ok (.iload_n 1, 1) := by decide +kernel
theorem dX8_joined_146 : decode cX8_joined 146 = .ok (.iload_n 2, 1) := by decide +kernel
theorem dX8_joined_147 : decode cX8_joined 147 = .ok (.iadd, 1) := by decide +kernel
theorem dX8_joined_148 : decode cX8_joined 148 = .ok (.ireturn, 1) := by decide +kernel
theorem dX8_joined_149 : decode cX8_joined 149 = .ok (.iload_n 1, 1) := by decide +kernel
theorem dX8_joined_150 : decode cX8_joined 150 = .ok (.iload_n 2, 1) := by decide +kernel
theorem dX8_joined_151 : decode cX8_joined 151 = .ok (.isub, 1) := by decide +kernel
theorem dX8_joined_152 : decode cX8_joined 152 = .ok (.ireturn, 1) := by decide +kernel
theorem dX8_joined_153 : decode cX8_joined 153 = .ok (.iload_n 1, 1) := by decide +kernel
theorem dX8_joined_154 : decode cX8_joined 154 = .ok (.iload_n 2, 1) := by decide +kernel
theorem dX8_joined_155 : decode cX8_joined 155 = .ok (.imul, 1) := by decide +kernel
theorem dX8_joined_156 : decode cX8_joined 156 = .ok (.ireturn, 1) := by decide +kernel
theorem dX8_joined_157 : decode cX8_joined 157 = .ok (.iload_n 2, 1) := by decide +kernel
theorem dX8_joined_158 : decode cX8_joined 158 = .ok (.ifCond .ne 7, 3) := by decide +kernel
theorem dX8_joined_161 : decode cX8_joined 161 = .ok (.iconst 0, 1) := by decide +kernel
theorem dX8_joined_162 : decode cX8_joined 162 = .ok (.goto 6, 3) := by decide +kernel
theorem dX8_joined_165 : decode cX8_joined 165 = .ok (.iload_n 1, 1) := by decide +kernel
theorem dX8_joined_166 : decode cX8_joined 166 = .ok (.iload_n 2, 1) := by decide +kernel
theorem dX8_joined_167 : decode cX8_joined 167 = .ok (.idiv, 1) := by decide +kernel
theorem dX8_joined_168 : decode cX8_joined 168 = .ok (.ireturn, 1) := by decide +kernel
theorem dX8_joined_169 : decode cX8_joined 169 = .ok (.iconst 0, 1) := by decide +kernel
theorem dX8_joined_170 : decode cX8_joined 170 = .ok (.ireturn, 1) := by decide +kernel
theorem dX9_init_0 : decode cX9_init 0 = .ok (.aload_n 0, 1) := by decide +kernel
theorem dX9_init_1 : decode cX9_init 1 = .ok (.invokespecial 3, 3) := by decide +kernel
theorem dX9_init_4 : decode cX9_init 4 = .ok (.aload_n 0, 1) := by decide +kernel
theorem dX9_init_5 : decode cX9_init 5 = .ok (.iload_n 1, 1) := by decide +kernel
theorem dX9_init_6 : decode cX9_init 6 = .ok (.putfield 9, 3) := by decide +kernel
theorem dX9_init_9 : decode cX9_init 9 = .ok (.aload_n 0, 1) := by decide +kernel
theorem dX9_init_10 : decode cX9_init 10 = .ok (.iload_n 2, 1) := by decide +kernel
theorem dX9_init_11 : decode cX9_init 11 = .ok (.putfield 15, 3) := by decide +kernel
theorem dX9_init_14 : decode cX9_init 14 = .ok (.return_, 1) := by decide +kernel
theorem dX9_ofKind_0 : decode cX9_ofKind 0 = .ok (.iload_n 0, 1) := by decide +kernel
theorem dX9_ofKind_1 : decode cX9_ofKind 1 = .ok (.tableswitch 85 1 5 #[35, 45, 55, 65, 75], 35) := by decide +kernel
theorem dX9_ofKind_36 : decode cX9_ofKind 36 = .ok (.new 18, 3) := by decide +kernel
theorem dX9_ofKind_39 : decode cX9_ofKind 39 = .ok (.dup, 1) := by decide +kernel
theorem dX9_ofKind_40 : decode cX9_ofKind 40 = .ok (.iload_n 0, 1) := by decide +kernel
theorem dX9_ofKind_41 : decode cX9_ofKind 41 = .ok (.iload_n 1, 1) := by decide +kernel
theorem dX9_ofKind_42 : decode cX9_ofKind 42 = .ok (.invokespecial 20, 3) := by decide +kernel
theorem dX9_ofKind_45 : decode cX9_ofKind 45 = .ok (.areturn, 1) := by decide +kernel
theorem dX9_ofKind_46 : decode cX9_ofKind 46 = .ok (.new 23, 3) := by decide +kernel
theorem dX9_ofKind_49 : decode cX9_ofKind 49 = .ok (.dup, 1) := by decide +kernel
theorem dX9_ofKind_50 : decode cX9_ofKind 50 = .ok (.iload_n 0, 1) := by decide +kernel
theorem dX9_ofKind_51 : decode cX9_ofKind 51 = .ok (.iload_n 1, 1) := by decide +kernel
theorem dX9_ofKind_52 : decode cX9_ofKind 52 = .ok (.invokespecial 25, 3) := by decide +kernel
theorem dX9_ofKind_55 : decode cX9_ofKind 55 = .ok (.areturn, 1) := by decide +kernel
theorem dX9_ofKind_56 : decode cX9_ofKind 56 = .ok (.new 26, 3) := by decide +kernel
theorem dX9_ofKind_59 : decode cX9_ofKind 59 = .ok (.dup, 1) := by decide +kernel
theorem dX9_ofKind_60 : decode cX9_ofKind 60 = .ok (.iload_n 0, 1) := by decide +kernel
theorem dX9_ofKind_61 : decode cX9_ofKind 61 = .ok (.iload_n 1, 1) := by decide +kernel
theorem dX9_ofKind_62 : decode cX9_ofKind 62 = .ok (.invokespecial 28, 3) := by decide +kernel
theorem dX9_ofKind_65 : decode cX9_ofKind 65 = .ok (.areturn, 1) := by decide +kernel
theorem dX9_ofKind_66 : decode cX9_ofKind 66 = .ok (.new 29, 3) := by decide +kernel
theorem dX9_ofKind_69 : decode cX9_ofKind 69 = .ok (.dup, 1) := by decide +kernel
theorem dX9_ofKind_70 : decode cX9_ofKind 70 = .ok (.iload_n 0, 1) := by decide +kernel
theorem dX9_ofKind_71 : decode cX9_ofKind 71 = .ok (.iload_n 1, 1) := by decide +kernel
theorem dX9_ofKind_72 : decode cX9_ofKind 72 = .ok (.invokespecial 31, 3) := by decide +kernel
theorem dX9_ofKind_75 : decode cX9_ofKind 75 = .ok (.areturn, 1) := by decide +kernel
theorem dX9_ofKind_76 : decode cX9_ofKind 76 = .ok (.new 32, 3) := by decide +kernel
theorem dX9_ofKind_79 : decode cX9_ofKind 79 = .ok (.dup, 1) := by decide +kernel
theorem dX9_ofKind_80 : decode cX9_ofKind 80 = .ok (.iload_n 0, 1) := by decide +kernel
theorem dX9_ofKind_81 : decode cX9_ofKind 81 = .ok (.iload_n 1, 1) := by decide +kernel
theorem dX9_ofKind_82 : decode cX9_ofKind 82 = .ok (.invokespecial 34, 3) := by decide +kernel
theorem dX9_ofKind_85 : decode cX9_ofKind 85 = .ok (.areturn, 1) := by decide +kernel
theorem dX9_ofKind_86 : decode cX9_ofKind 86 = .ok (.new 10, 3) := by decide +kernel
theorem dX9_ofKind_89 : decode cX9_ofKind 89 = .ok (.dup, 1) := by decide +kernel
theorem dX9_ofKind_90 : decode cX9_ofKind 90 = .ok (.iconst 0, 1) := by decide +kernel
theorem dX9_ofKind_91 : decode cX9_ofKind 91 = .ok (.iload_n 1, 1) := by decide +kernel
theorem dX9_ofKind_92 : decode cX9_ofKind 92 = .ok (.invokespecial 35, 3) := by decide +kernel
theorem dX9_ofKind_95 : decode cX9_ofKind 95 = .ok (.areturn, 1) := by decide +kernel
theorem dX9_isOf_0 : decode cX9_isOf 0 = .ok (.iload_n 1, 1) := by decide +kernel
theorem dX9_isOf_1 : decode cX9_isOf 1 = .ok (.tableswitch 66 0 5 #[39, 41, 46, 51, 56, 61], 39) := by decide +kernel
theorem dX9_isOf_40 : decode cX9_isOf 40 = .ok (.iconst 1, 1) := by decide +kernel
theorem dX9_isOf_41 : decode cX9_isOf 41 = .ok (.ireturn, 1) := by decide +kernel
theorem dX9_isOf_42 : decode cX9_isOf 42 = .ok (.aload_n 0, 1) := by decide +kernel
theorem dX9_isOf_43 : decode cX9_isOf 43 = .ok (.instanceof 18, 3) := by decide +kernel
theorem dX9_isOf_46 : decode cX9_isOf 46 = .ok (.ireturn, 1) := by decide +kernel
theorem dX9_isOf_47 : decode cX9_isOf 47 = .ok (.aload_n 0, 1) := by decide +kernel
theorem dX9_isOf_48 : decode cX9_isOf 48 = .ok (.instanceof 23, 3) := by decide +kernel
theorem dX9_isOf_51 : decode cX9_isOf 51 = .ok (.ireturn, 1) := by decide +kernel
theorem dX9_isOf_52 : decode cX9_isOf 52 = .ok (.aload_n 0, 1) := by decide +kernel
theorem dX9_isOf_53 : decode cX9_isOf 53 = .ok (.instanceof 26, 3) := by decide +kernel
theorem dX9_isOf_56 : decode cX9_isOf 56 = .ok (.ireturn, 1) := by decide +kernel
theorem dX9_isOf_57 : decode cX9_isOf 57 = .ok (.aload_n 0, 1) := by decide +kernel
theorem dX9_isOf_58 : decode cX9_isOf 58 = .ok (.instanceof 29, 3) := by decide +kernel
theorem dX9_isOf_61 : decode cX9_isOf 61 = .ok (.ireturn, 1) := by decide +kernel
theorem dX9_isOf_62 : decode cX9_isOf 62 = .ok (.aload_n 0, 1) := by decide +kernel
theorem dX9_isOf_63 : decode cX9_isOf 63 = .ok (.instanceof 32, 3) := by decide +kernel
theorem dX9_isOf_66 : decode cX9_isOf 66 = .ok (.ireturn, 1) := by decide +kernel
theorem dX9_isOf_67 : decode cX9_isOf 67 = .ok (.iconst 0, 1) := by decide +kernel
theorem dX9_isOf_68 : decode cX9_isOf 68 = .ok (.ireturn, 1) := by decide +kernel
theorem dX9_heeds_0 : decode cX9_heeds 0 = .ok (.iload_n 3, 1) := by decide +kernel
theorem dX9_heeds_1 : decode cX9_heeds 1 = .ok (.ireturn, 1) := by decide +kernel
theorem dX9_picks_0 : decode cX9_picks 0 = .ok (.aload_n 1, 1) := by decide +kernel
theorem dX9_picks_1 : decode cX9_picks 1 = .ok (.aload_n 0, 1) := by decide +kernel
theorem dX9_picks_2 : decode cX9_picks 2 = .ok (.getfield 15, 3) := by decide +kernel
theorem dX9_picks_5 : decode cX9_picks 5 = .ok (.invokevirtual 36, 3) := by decide +kernel
theorem dX9_picks_8 : decode cX9_picks 8 = .ok (.ireturn, 1) := by decide +kernel
theorem dX9_value_0 : decode cX9_value 0 = .ok (.aload_n 0, 1) := by decide +kernel
theorem dX9_value_1 : decode cX9_value 1 = .ok (.getfield 15, 3) := by decide +kernel
theorem dX9_value_4 : decode cX9_value 4 = .ok (.ireturn, 1) := by decide +kernel
theorem dX10_init_0 : decode cX10_init 0 = .ok (.aload_n 0, 1) := by decide +kernel
theorem dX10_init_1 : decode cX10_init 1 = .ok (.invokespecial 3, 3) := by decide +kernel
theorem dX10_init_4 : decode cX10_init 4 = .ok (.aload_n 0, 1) := by decide +kernel
theorem dX10_init_5 : decode cX10_init 5 = .ok (.iconst 0, 1) := by decide +kernel
theorem dX10_init_6 : decode cX10_init 6 = .ok (.putfield 9, 3) := by decide +kernel
theorem dX10_init_9 : decode cX10_init 9 = .ok (.aload_n 0, 1) := by decide +kernel
theorem dX10_init_10 : decode cX10_init 10 = .ok (.iconst 0, 1) := by decide +kernel
theorem dX10_init_11 : decode cX10_init 11 = .ok (.putfield 15, 3) := by decide +kernel
theorem dX10_init_14 : decode cX10_init 14 = .ok (.aload_n 0, 1) := by decide +kernel
theorem dX10_init_15 : decode cX10_init 15 = .ok (.iconst 0, 1) := by decide +kernel
theorem dX10_init_16 : decode cX10_init 16 = .ok (.putfield 18, 3) := by decide +kernel
theorem dX10_init_19 : decode cX10_init 19 = .ok (.aload_n 0, 1) := by decide +kernel
theorem dX10_init_20 : decode cX10_init 20 = .ok (.iconst 0, 1) := by decide +kernel
theorem dX10_init_21 : decode cX10_init 21 = .ok (.putfield 21, 3) := by decide +kernel
theorem dX10_init_24 : decode cX10_init 24 = .ok (.aload_n 0, 1) := by decide +kernel
theorem dX10_init_25 : decode cX10_init 25 = .ok (.iconst 3, 1) := by decide +kernel
theorem dX10_init_26 : decode cX10_init 26 = .ok (.putfield 24, 3) := by decide +kernel
theorem dX10_init_29 : decode cX10_init 29 = .ok (.aload_n 0, 1) := by decide +kernel
theorem dX10_init_30 : decode cX10_init 30 = .ok (.iconst 0, 1) := by decide +kernel
theorem dX10_init_31 : decode cX10_init 31 = .ok (.putfield 27, 3) := by decide +kernel
theorem dX10_init_34 : decode cX10_init 34 = .ok (.aload_n 0, 1) := by decide +kernel
theorem dX10_init_35 : decode cX10_init 35 = .ok (.iconst 0, 1) := by decide +kernel
theorem dX10_init_36 : decode cX10_init 36 = .ok (.putfield 30, 3) := by decide +kernel
theorem dX10_init_39 : decode cX10_init 39 = .ok (.aload_n 0, 1) := by decide +kernel
theorem dX10_init_40 : decode cX10_init 40 = .ok (.iconst 1, 1) := by decide +kernel
theorem dX10_init_41 : decode cX10_init 41 = .ok (.putfield 33, 3) := by decide +kernel
theorem dX10_init_44 : decode cX10_init 44 = .ok (.aload_n 0, 1) := by decide +kernel
theorem dX10_init_45 : decode cX10_init 45 = .ok (.bipush 10, 2) := by decide +kernel
theorem dX10_init_47 : decode cX10_init 47 = .ok (.newarray .int, 2) := by decide +kernel
theorem dX10_init_49 : decode cX10_init 49 = .ok (.putfield 36, 3) := by decide +kernel
theorem dX10_init_52 : decode cX10_init 52 = .ok (.aload_n 0, 1) := by decide +kernel
theorem dX10_init_53 : decode cX10_init 53 = .ok (.bipush 10, 2) := by decide +kernel
theorem dX10_init_55 : decode cX10_init 55 = .ok (.newarray .int, 2) := by decide +kernel
theorem dX10_init_57 : decode cX10_init 57 = .ok (.putfield 40, 3) := by decide +kernel
theorem dX10_init_60 : decode cX10_init 60 = .ok (.aload_n 0, 1) := by decide +kernel
theorem dX10_init_61 : decode cX10_init 61 = .ok (.bipush 10, 2) := by decide +kernel
theorem dX10_init_63 : decode cX10_init 63 = .ok (.newarray .int, 2) := by decide +kernel
theorem dX10_init_65 : decode cX10_init 65 = .ok (.putfield 43, 3) := by decide +kernel
theorem dX10_init_68 : decode cX10_init 68 = .ok (.aload_n 0, 1) := by decide +kernel
theorem dX10_init_69 : decode cX10_init 69 = .ok (.bipush 12, 2) := by decide +kernel
theorem dX10_init_71 : decode cX10_init 71 = .ok (.newarray .int, 2) := by decide +kernel
theorem dX10_init_73 : decode cX10_init 73 = .ok (.putfield 46, 3) := by decide +kernel
theorem dX10_init_76 : decode cX10_init 76 = .ok (.aload_n 0, 1) := by decide +kernel
theorem dX10_init_77 : decode cX10_init 77 = .ok (.bipush 12, 2) := by decide +kernel
theorem dX10_init_79 : decode cX10_init 79 = .ok (.newarray .int, 2) := by decide +kernel
theorem dX10_init_81 : decode cX10_init 81 = .ok (.putfield 49, 3) := by decide +kernel
theorem dX10_init_84 : decode cX10_init 84 = .ok (.aload_n 0, 1) := by decide +kernel
theorem dX10_init_85 : decode cX10_init 85 = .ok (.bipush 12, 2) := by decide +kernel
theorem dX10_init_87 : decode cX10_init 87 = .ok (.newarray .int, 2) := by decide +kernel
theorem dX10_init_89 : decode cX10_init 89 = .ok (.putfield 52, 3) := by decide +kernel
theorem dX10_init_92 : decode cX10_init 92 = .ok (.aload_n 0, 1) := by decide +kernel
theorem dX10_init_93 : decode cX10_init 93 = .ok (.bipush 24, 2) := by decide +kernel
theorem dX10_init_95 : decode cX10_init 95 = .ok (.newarray .int, 2) := by decide +kernel
theorem dX10_init_97 : decode cX10_init 97 = .ok (.putfield 55, 3) := by decide +kernel
theorem dX10_init_100 : decode cX10_init 100 = .ok (.aload_n 0, 1) := by decide +kernel
theorem dX10_init_101 : decode cX10_init 101 = .ok (.bipush 6, 2) := by decide +kernel
theorem dX10_init_103 : decode cX10_init 103 = .ok (.anewarray 58, 3) := by decide +kernel
theorem dX10_init_106 : decode cX10_init 106 = .ok (.putfield 60, 3) := by decide +kernel
theorem dX10_init_109 : decode cX10_init 109 = .ok (.aload_n 0, 1) := by decide +kernel
theorem dX10_init_110 : decode cX10_init 110 = .ok (.bipush 14, 2) := by decide +kernel
theorem dX10_init_112 : decode cX10_init 112 = .ok (.anewarray 64, 3) := by decide +kernel
theorem dX10_init_115 : decode cX10_init 115 = .ok (.putfield 66, 3) := by decide +kernel
theorem dX10_init_118 : decode cX10_init 118 = .ok (.aload_n 0, 1) := by decide +kernel
theorem dX10_init_119 : decode cX10_init 119 = .ok (.bipush 10, 2) := by decide +kernel
theorem dX10_init_121 : decode cX10_init 121 = .ok (.newarray .int, 2) := by decide +kernel
theorem dX10_init_123 : decode cX10_init 123 = .ok (.putfield 70, 3) := by decide +kernel
theorem dX10_init_126 : decode cX10_init 126 = .ok (.aload_n 0, 1) := by decide +kernel
theorem dX10_init_127 : decode cX10_init 127 = .ok (.bipush 72, 2) := by decide +kernel
theorem dX10_init_129 : decode cX10_init 129 = .ok (.newarray .int, 2) := by decide +kernel
theorem dX10_init_131 : decode cX10_init 131 = .ok (.putfield 73, 3) := by decide +kernel
theorem dX10_init_134 : decode cX10_init 134 = .ok (.aload_n 0, 1) := by decide +kernel
theorem dX10_init_135 : decode cX10_init 135 = .ok (.bipush 72, 2) := by decide +kernel
theorem dX10_init_137 : decode cX10_init 137 = .ok (.newarray .int, 2) := by decide +kernel
theorem dX10_init_139 : decode cX10_init 139 = .ok (.putfield 76, 3) := by decide +kernel
theorem dX10_init_142 : decode cX10_init 142 = .ok (.return_, 1) := by decide +kernel
theorem dX10_become_0 : decode cX10_become 0 = .ok (.aload_n 0, 1) := by decide +kernel
theorem dX10_become_1 : decode cX10_become 1 = .ok (.aload_n 1, 1) := by decide +kernel
theorem dX10_become_2 : decode cX10_become 2 = .ok (.getfield 9, 3) := by decide +kernel
theorem dX10_become_5 : decode cX10_become 5 = .ok (.putfield 9, 3) := by decide +kernel
theorem dX10_become_8 : decode cX10_become 8 = .ok (.aload_n 0, 1) := by decide +kernel
theorem dX10_become_9 : decode cX10_become 9 = .ok (.aload_n 1, 1) := by decide +kernel
theorem dX10_become_10 : decode cX10_become 10 = .ok (.getfield 15, 3) := by decide +kernel
theorem dX10_become_13 : decode cX10_become 13 = .ok (.putfield 15, 3) := by decide +kernel
theorem dX10_become_16 : decode cX10_become 16 = .ok (.aload_n 0, 1) := by decide +kernel
theorem dX10_become_17 : decode cX10_become 17 = .ok (.aload_n 1, 1) := by decide +kernel
theorem dX10_become_18 : decode cX10_become 18 = .ok (.getfield 18, 3) := by decide +kernel
theorem dX10_become_21 : decode cX10_become 21 = .ok (.putfield 18, 3) := by decide +kernel
theorem dX10_become_24 : decode cX10_become 24 = .ok (.aload_n 0, 1) := by decide +kernel
theorem dX10_become_25 : decode cX10_become 25 = .ok (.aload_n 1, 1) := by decide +kernel
theorem dX10_become_26 : decode cX10_become 26 = .ok (.getfield 21, 3) := by decide +kernel
theorem dX10_become_29 : decode cX10_become 29 = .ok (.putfield 21, 3) := by decide +kernel
theorem dX10_become_32 : decode cX10_become 32 = .ok (.aload_n 0, 1) := by decide +kernel
theorem dX10_become_33 : decode cX10_become 33 = .ok (.aload_n 1, 1) := by decide +kernel
theorem dX10_become_34 : decode cX10_become 34 = .ok (.getfield 24, 3) := by decide +kernel
theorem dX10_become_37 : decode cX10_become 37 = .ok (.putfield 24, 3) := by decide +kernel
theorem dX10_become_40 : decode cX10_become 40 = .ok (.aload_n 0, 1) := by decide +kernel
theorem dX10_become_41 : decode cX10_become 41 = .ok (.aload_n 1, 1) := by decide +kernel
theorem dX10_become_42 : decode cX10_become 42 = .ok (.getfield 27, 3) := by decide +kernel
theorem dX10_become_45 : decode cX10_become 45 = .ok (.putfield 27, 3) := by decide +kernel
theorem dX10_become_48 : decode cX10_become 48 = .ok (.aload_n 0, 1) := by decide +kernel
theorem dX10_become_49 : decode cX10_become 49 = .ok (.aload_n 1, 1) := by decide +kernel
theorem dX10_become_50 : decode cX10_become 50 = .ok (.getfield 30, 3) := by decide +kernel
theorem dX10_become_53 : decode cX10_become 53 = .ok (.putfield 30, 3) := by decide +kernel
theorem dX10_become_56 : decode cX10_become 56 = .ok (.aload_n 0, 1) := by decide +kernel
theorem dX10_become_57 : decode cX10_become 57 = .ok (.aload_n 1, 1) := by decide +kernel
theorem dX10_become_58 : decode cX10_become 58 = .ok (.getfield 33, 3) := by decide +kernel
theorem dX10_become_61 : decode cX10_become 61 = .ok (.putfield 33, 3) := by decide +kernel
theorem dX10_become_64 : decode cX10_become 64 = .ok (.aload_n 1, 1) := by decide +kernel
theorem dX10_become_65 : decode cX10_become 65 = .ok (.getfield 36, 3) := by decide +kernel
theorem dX10_become_68 : decode cX10_become 68 = .ok (.iconst 0, 1) := by decide +kernel
theorem dX10_become_69 : decode cX10_become 69 = .ok (.aload_n 0, 1) := by decide +kernel
theorem dX10_become_70 : decode cX10_become 70 = .ok (.getfield 36, 3) := by decide +kernel
theorem dX10_become_73 : decode cX10_become 73 = .ok (.iconst 0, 1) := by decide +kernel
theorem dX10_become_74 : decode cX10_become 74 = .ok (.bipush 10, 2) := by decide +kernel
theorem dX10_become_76 : decode cX10_become 76 = .ok (.invokestatic 79, 3) := by decide +kernel
theorem dX10_become_79 : decode cX10_become 79 = .ok (.aload_n 1, 1) := by decide +kernel
theorem dX10_become_80 : decode cX10_become 80 = .ok (.getfield 40, 3) := by decide +kernel
theorem dX10_become_83 : decode cX10_become 83 = .ok (.iconst 0, 1) := by decide +kernel
theorem dX10_become_84 : decode cX10_become 84 = .ok (.aload_n 0, 1) := by decide +kernel
theorem dX10_become_85 : decode cX10_become 85 = .ok (.getfield 40, 3) := by decide +kernel
theorem dX10_become_88 : decode cX10_become 88 = .ok (.iconst 0, 1) := by decide +kernel
theorem dX10_become_89 : decode cX10_become 89 = .ok (.bipush 10, 2) := by decide +kernel
theorem dX10_become_91 : decode cX10_become 91 = .ok (.invokestatic 79, 3) := by decide +kernel
theorem dX10_become_94 : decode cX10_become 94 = .ok (.aload_n 1, 1) := by decide +kernel
theorem dX10_become_95 : decode cX10_become 95 = .ok (.getfield 43, 3) := by decide +kernel
theorem dX10_become_98 : decode cX10_become 98 = .ok (.iconst 0, 1) := by decide +kernel
theorem dX10_become_99 : decode cX10_become 99 = .ok (.aload_n 0, 1) := by decide +kernel
theorem dX10_become_100 : decode cX10_become 100 = .ok (.getfield 43, 3) := by decide +kernel
theorem dX10_become_103 : decode cX10_become 103 = .ok (.iconst 0, 1) := by decide +kernel
theorem dX10_become_104 : decode cX10_become 104 = .ok (.bipush 10, 2) := by decide +kernel
theorem dX10_become_106 : decode cX10_become 106 = .ok (.invokestatic 79, 3) := by decide +kernel
theorem dX10_become_109 : decode cX10_become 109 = .ok (.aload_n 1, 1) := by decide +kernel
theorem dX10_become_110 : decode cX10_become 110 = .ok (.getfield 46, 3) := by decide +kernel
theorem dX10_become_113 : decode cX10_become 113 = .ok (.iconst 0, 1) := by decide +kernel
theorem dX10_become_114 : decode cX10_become 114 = .ok (.aload_n 0, 1) := by decide +kernel
theorem dX10_become_115 : decode cX10_become 115 = .ok (.getfield 46, 3) := by decide +kernel
theorem dX10_become_118 : decode cX10_become 118 = .ok (.iconst 0, 1) := by decide +kernel
theorem dX10_become_119 : decode cX10_become 119 = .ok (.bipush 12, 2) := by decide +kernel
theorem dX10_become_121 : decode cX10_become 121 = .ok (.invokestatic 79, 3) := by decide +kernel
theorem dX10_become_124 : decode cX10_become 124 = .ok (.aload_n 1, 1) := by decide +kernel
theorem dX10_become_125 : decode cX10_become 125 = .ok (.getfield 49, 3) := by decide +kernel
theorem dX10_become_128 : decode cX10_become 128 = .ok (.iconst 0, 1) := by decide +kernel
theorem dX10_become_129 : decode cX10_become 129 = .ok (.aload_n 0, 1) := by decide +kernel
theorem dX10_become_130 : decode cX10_become 130 = .ok (.getfield 49, 3) := by decide +kernel
theorem dX10_become_133 : decode cX10_become 133 = .ok (.iconst 0, 1) := by decide +kernel
theorem dX10_become_134 : decode cX10_become 134 = .ok (.bipush 12, 2) := by decide +kernel
theorem dX10_become_136 : decode cX10_become 136 = .ok (.invokestatic 79, 3) := by decide +kernel
theorem dX10_become_139 : decode cX10_become 139 = .ok (.aload_n 1, 1) := by decide +kernel
theorem dX10_become_140 : decode cX10_become 140 = .ok (.getfield 52, 3) := by decide +kernel
theorem dX10_become_143 : decode cX10_become 143 = .ok (.iconst 0, 1) := by decide +kernel
theorem dX10_become_144 : decode cX10_become 144 = .ok (.aload_n 0, 1) := by decide +kernel
theorem dX10_become_145 : decode cX10_become 145 = .ok (.getfield 52, 3) := by decide +kernel
theorem dX10_become_148 : decode cX10_become 148 = .ok (.iconst 0, 1) := by decide +kernel
theorem dX10_become_149 : decode cX10_become 149 = .ok (.bipush 12, 2) := by decide +kernel
theorem dX10_become_151 : decode cX10_become 151 = .ok (.invokestatic 79, 3) := by decide +kernel
theorem dX10_become_154 : decode cX10_become 154 = .ok (.aload_n 1, 1) := by decide +kernel
theorem dX10_become_155 : decode cX10_become 155 = .ok (.getfield 55, 3) := by decide +kernel
theorem dX10_become_158 : decode cX10_become 158 = .ok (.iconst 0, 1) := by decide +kernel
theorem dX10_become_159 : decode cX10_become 159 = .ok (.aload_n 0, 1) := by decide +kernel
theorem dX10_become_160 : decode cX10_become 160 = .ok (.getfield 55, 3) := by decide +kernel
theorem dX10_become_163 : decode cX10_become 163 = .ok (.iconst 0, 1) := by decide +kernel
theorem dX10_become_164 : decode cX10_become 164 = .ok (.bipush 24, 2) := by decide +kernel
theorem dX10_become_166 : decode cX10_become 166 = .ok (.invokestatic 79, 3) := by decide +kernel
theorem dX10_become_169 : decode cX10_become 169 = .ok (.iconst 0, 1) := by decide +kernel
theorem dX10_become_170 : decode cX10_become 170 = .ok (.istore_n 2, 1) := by decide +kernel
theorem dX10_become_171 : decode cX10_become 171 = .ok (.iload_n 2, 1) := by decide +kernel
theorem dX10_become_172 : decode cX10_become 172 = .ok (.bipush 6, 2) := by decide +kernel
theorem dX10_become_174 : decode cX10_become 174 = .ok (.if_icmp .ge 21, 3) := by decide +kernel
theorem dX10_become_177 : decode cX10_become 177 = .ok (.aload_n 0, 1) := by decide +kernel
theorem dX10_become_178 : decode cX10_become 178 = .ok (.getfield 60, 3) := by decide +kernel
theorem dX10_become_181 : decode cX10_become 181 = .ok (.iload_n 2, 1) := by decide +kernel
theorem dX10_become_182 : decode cX10_become 182 = .ok (.aload_n 1, 1) := by decide +kernel
theorem dX10_become_183 : decode cX10_become 183 = .ok (.getfield 60, 3) := by decide +kernel
theorem dX10_become_186 : decode cX10_become 186 = .ok (.iload_n 2, 1) := by decide +kernel
theorem dX10_become_187 : decode cX10_become 187 = .ok (.aaload, 1) := by decide +kernel
theorem dX10_become_188 : decode cX10_become 188 = .ok (.aastore, 1) := by decide +kernel
theorem dX10_become_189 : decode cX10_become 189 = .ok (.iinc 2 1, 3) := by decide +kernel
theorem dX10_become_192 : decode cX10_become 192 = .ok (.goto (-21), 3) := by decide +kernel
theorem dX10_become_195 : decode cX10_become 195 = .ok (.iconst 0, 1) := by decide +kernel
theorem dX10_become_196 : decode cX10_become 196 = .ok (.istore_n 2, 1) := by decide +kernel
theorem dX10_become_197 : decode cX10_become 197 = .ok (.iload_n 2, 1) := by decide +kernel
theorem dX10_become_198 : decode cX10_become 198 = .ok (.bipush 14, 2) := by decide +kernel
theorem dX10_become_200 : decode cX10_become 200 = .ok (.if_icmp .ge 21, 3) := by decide +kernel
theorem dX10_become_203 : decode cX10_become 203 = .ok (.aload_n 0, 1) := by decide +kernel
theorem dX10_become_204 : decode cX10_become 204 = .ok (.getfield 66, 3) := by decide +kernel
theorem dX10_become_207 : decode cX10_become 207 = .ok (.iload_n 2, 1) := by decide +kernel
theorem dX10_become_208 : decode cX10_become 208 = .ok (.aload_n 1, 1) := by decide +kernel
theorem dX10_become_209 : decode cX10_become 209 = .ok (.getfield 66, 3) := by decide +kernel
theorem dX10_become_212 : decode cX10_become 212 = .ok (.iload_n 2, 1) := by decide +kernel
theorem dX10_become_213 : decode cX10_become 213 = .ok (.aaload, 1) := by decide +kernel
theorem dX10_become_214 : decode cX10_become 214 = .ok (.aastore, 1) := by decide +kernel
theorem dX10_become_215 : decode cX10_become 215 = .ok (.iinc 2 1, 3) := by decide +kernel
theorem dX10_become_218 : decode cX10_become 218 = .ok (.goto (-21), 3) := by decide +kernel
theorem dX10_become_221 : decode cX10_become 221 = .ok (.return_, 1) := by decide +kernel
theorem dX10_isHouse_0 : decode cX10_isHouse 0 = .ok (.iload_n 1, 1) := by decide +kernel
theorem dX10_isHouse_1 : decode cX10_isHouse 1 = .ok (.ifCond .lt 15, 3) := by decide +kernel
theorem dX10_isHouse_4 : decode cX10_isHouse 4 = .ok (.iload_n 1, 1) := by decide +kernel
theorem dX10_isHouse_5 : decode cX10_isHouse 5 = .ok (.aload_n 0, 1) := by decide +kernel
theorem dX10_isHouse_6 : decode cX10_isHouse 6 = .ok (.getfield 9, 3) := by decide +kernel
theorem dX10_isHouse_9 : decode cX10_isHouse 9 = .ok (.if_icmp .ge 7, 3) := by decide +kernel
theorem dX10_isHouse_12 : decode cX10_isHouse 12 = .ok (.iconst 1, 1) := by decide +kernel
theorem dX10_isHouse_13 : decode cX10_isHouse 13 = .ok (.goto 4, 3) := by decide +kernel
theorem dX10_isHouse_16 : decode cX10_isHouse 16 = .ok (.iconst 0, 1) := by decide +kernel
theorem dX10_isHouse_17 : decode cX10_isHouse 17 = .ok (.ireturn, 1) := by decide +kernel
theorem dX10_isDoor_0 : decode cX10_isDoor 0 = .ok (.iload_n 1, 1) := by decide +kernel
theorem dX10_isDoor_1 : decode cX10_isDoor 1 = .ok (.ifCond .lt 15, 3) := by decide +kernel
theorem dX10_isDoor_4 : decode cX10_isDoor 4 = .ok (.iload_n 1, 1) := by decide +kernel
theorem dX10_isDoor_5 : decode cX10_isDoor 5 = .ok (.aload_n 0, 1) := by decide +kernel
theorem dX10_isDoor_6 : decode cX10_isDoor 6 = .ok (.getfield 15, 3) := by decide +kernel
theorem dX10_isDoor_9 : decode cX10_isDoor 9 = .ok (.if_icmp .ge 7, 3) := by decide +kernel
theorem dX10_isDoor_12 : decode cX10_isDoor 12 = .ok (.iconst 1, 1) := by decide +kernel
theorem dX10_isDoor_13 : decode cX10_isDoor 13 = .ok (.goto 4, 3) := by decide +kernel
theorem dX10_isDoor_16 : decode cX10_isDoor 16 = .ok (.iconst 0, 1) := by decide +kernel
theorem dX10_isDoor_17 : decode cX10_isDoor 17 = .ok (.ireturn, 1) := by decide +kernel
theorem dX10_thiefAt_0 : decode cX10_thiefAt 0 = .ok (.iload_n 1, 1) := by decide +kernel
theorem dX10_thiefAt_1 : decode cX10_thiefAt 1 = .ok (.iconst 0, 1) := by decide +kernel
theorem dX10_thiefAt_2 : decode cX10_thiefAt 2 = .ok (.aload_n 0, 1) := by decide +kernel
theorem dX10_thiefAt_3 : decode cX10_thiefAt 3 = .ok (.getfield 18, 3) := by decide +kernel
theorem dX10_thiefAt_6 : decode cX10_thiefAt 6 = .ok (.iconst 1, 1) := by decide +kernel
theorem dX10_thiefAt_7 : decode cX10_thiefAt 7 = .ok (.isub, 1) := by decide +kernel
theorem dX10_thiefAt_8 : decode cX10_thiefAt 8 = .ok (.invokestatic 85, 3) := by decide +kernel
theorem dX10_thiefAt_11 : decode cX10_thiefAt 11 = .ok (.ifCond .eq 12, 3) := by decide +kernel
theorem dX10_thiefAt_14 : decode cX10_thiefAt 14 = .ok (.aload_n 0, 1) := by decide +kernel
theorem dX10_thiefAt_15 : decode cX10_thiefAt 15 = .ok (.getfield 60, 3) := by decide +kernel
theorem dX10_thiefAt_18 : decode cX10_thiefAt 18 = .ok (.iload_n 1, 1) := by decide +kernel
theorem dX10_thiefAt_19 : decode cX10_thiefAt 19 = .ok (.aaload, 1) := by decide +kernel
theorem dX10_thiefAt_20 : decode cX10_thiefAt 20 = .ok (.goto 4, 3) := by decide +kernel
theorem dX10_thiefAt_23 : decode cX10_thiefAt 23 = .ok (.aconst_null, 1) := by decide +kernel
theorem dX10_thiefAt_24 : decode cX10_thiefAt 24 = .ok (.areturn, 1) := by decide +kernel
theorem dX10_textAt_0 : decode cX10_textAt 0 = .ok (.iload_n 1, 1) := by decide +kernel
theorem dX10_textAt_1 : decode cX10_textAt 1 = .ok (.iconst 0, 1) := by decide +kernel
theorem dX10_textAt_2 : decode cX10_textAt 2 = .ok (.aload_n 0, 1) := by decide +kernel
theorem dX10_textAt_3 : decode cX10_textAt 3 = .ok (.getfield 21, 3) := by decide +kernel
theorem dX10_textAt_6 : decode cX10_textAt 6 = .ok (.iconst 1, 1) := by decide +kernel
theorem dX10_textAt_7 : decode cX10_textAt 7 = .ok (.isub, 1) := by decide +kernel
theorem dX10_textAt_8 : decode cX10_textAt 8 = .ok (.invokestatic 85, 3) := by decide +kernel
theorem dX10_textAt_11 : decode cX10_textAt 11 = .ok (.ifCond .eq 12, 3) := by decide +kernel
theorem dX10_textAt_14 : decode cX10_textAt 14 = .ok (.aload_n 0, 1) := by decide +kernel
theorem dX10_textAt_15 : decode cX10_textAt 15 = .ok (.getfield 66, 3) := by decide +kernel
theorem dX10_textAt_18 : decode cX10_textAt 18 = .ok (.iload_n 1, 1) := by decide +kernel
theorem dX10_textAt_19 : decode cX10_textAt 19 = .ok (.aaload, 1) := by decide +kernel
theorem dX10_textAt_20 : decode cX10_textAt 20 = .ok (.goto 4, 3) := by decide +kernel
theorem dX10_textAt_23 : decode cX10_textAt 23 = .ok (.aconst_null, 1) := by decide +kernel
theorem dX10_textAt_24 : decode cX10_textAt 24 = .ok (.areturn, 1) := by decide +kernel
theorem dX10_addHouse_0 : decode cX10_addHouse 0 = .ok (.aload_n 0, 1) := by decide +kernel
theorem dX10_addHouse_1 : decode cX10_addHouse 1 = .ok (.getfield 9, 3) := by decide +kernel
theorem dX10_addHouse_4 : decode cX10_addHouse 4 = .ok (.bipush 10, 2) := by decide +kernel
theorem dX10_addHouse_6 : decode cX10_addHouse 6 = .ok (.if_icmp .lt 6, 3) := by decide +kernel
theorem dX10_addHouse_9 : decode cX10_addHouse 9 = .ok (.ldc 89, 2) := by decide +kernel
theorem dX10_addHouse_11 : decode cX10_addHouse 11 = .ok (.ireturn, 1) := by decide +kernel
theorem dX10_addHouse_12 : decode cX10_addHouse 12 = .ok (.aload_n 0, 1) := by decide +kernel
theorem dX10_addHouse_13 : decode cX10_addHouse 13 = .ok (.getfield 36, 3) := by decide +kernel
theorem dX10_addHouse_16 : decode cX10_addHouse 16 = .ok (.aload_n 0, 1) := by decide +kernel
theorem dX10_addHouse_17 : decode cX10_addHouse 17 = .ok (.getfield 9, 3) := by decide +kernel
theorem dX10_addHouse_20 : decode cX10_addHouse 20 = .ok (.iload_n 1, 1) := by decide +kernel
theorem dX10_addHouse_21 : decode cX10_addHouse 21 = .ok (.iastore, 1) := by decide +kernel
theorem dX10_addHouse_22 : decode cX10_addHouse 22 = .ok (.aload_n 0, 1) := by decide +kernel
theorem dX10_addHouse_23 : decode cX10_addHouse 23 = .ok (.getfield 40, 3) := by decide +kernel
theorem dX10_addHouse_26 : decode cX10_addHouse 26 = .ok (.aload_n 0, 1) := by decide +kernel
theorem dX10_addHouse_27 : decode cX10_addHouse 27 = .ok (.getfield 9, 3) := by decide +kernel
theorem dX10_addHouse_30 : decode cX10_addHouse 30 = .ok (.iload_n 2, 1) := by decide +kernel
theorem dX10_addHouse_31 : decode cX10_addHouse 31 = .ok (.iastore, 1) := by decide +kernel
theorem dX10_addHouse_32 : decode cX10_addHouse 32 = .ok (.aload_n 0, 1) := by decide +kernel
theorem dX10_addHouse_33 : decode cX10_addHouse 33 = .ok (.getfield 43, 3) := by decide +kernel
theorem dX10_addHouse_36 : decode cX10_addHouse 36 = .ok (.aload_n 0, 1) := by decide +kernel
theorem dX10_addHouse_37 : decode cX10_addHouse 37 = .ok (.getfield 9, 3) := by decide +kernel
theorem dX10_addHouse_40 : decode cX10_addHouse 40 = .ok (.iconst 0, 1) := by decide +kernel
theorem dX10_addHouse_41 : decode cX10_addHouse 41 = .ok (.iastore, 1) := by decide +kernel
theorem dX10_addHouse_42 : decode cX10_addHouse 42 = .ok (.aload_n 0, 1) := by decide +kernel
theorem dX10_addHouse_43 : decode cX10_addHouse 43 = .ok (.dup, 1) := by decide +kernel
theorem dX10_addHouse_44 : decode cX10_addHouse 44 = .ok (.getfield 9, 3) := by decide +kernel
theorem dX10_addHouse_47 : decode cX10_addHouse 47 = .ok (.iconst 1, 1) := by decide +kernel
theorem dX10_addHouse_48 : decode cX10_addHouse 48 = .ok (.iadd, 1) := by decide +kernel
theorem dX10_addHouse_49 : decode cX10_addHouse 49 = .ok (.putfield 9, 3) := by decide +kernel
theorem dX10_addHouse_52 : decode cX10_addHouse 52 = .ok (.aload_n 0, 1) := by decide +kernel
theorem dX10_addHouse_53 : decode cX10_addHouse 53 = .ok (.getfield 9, 3) := by decide +kernel
theorem dX10_addHouse_56 : decode cX10_addHouse 56 = .ok (.iconst 1, 1) := by decide +kernel
theorem dX10_addHouse_57 : decode cX10_addHouse 57 = .ok (.isub, 1) := by decide +kernel
theorem dX10_addHouse_58 : decode cX10_addHouse 58 = .ok (.ireturn, 1) := by decide +kernel
theorem dX10_addDoor_0 : decode cX10_addDoor 0 = .ok (.aload_n 0, 1) := by decide +kernel
theorem dX10_addDoor_1 : decode cX10_addDoor 1 = .ok (.getfield 15, 3) := by decide +kernel
theorem dX10_addDoor_4 : decode cX10_addDoor 4 = .ok (.bipush 12, 2) := by decide +kernel
theorem dX10_addDoor_6 : decode cX10_addDoor 6 = .ok (.if_icmp .lt 6, 3) := by decide +kernel
theorem dX10_addDoor_9 : decode cX10_addDoor 9 = .ok (.ldc 89, 2) := by decide +kernel
theorem dX10_addDoor_11 : decode cX10_addDoor 11 = .ok (.ireturn, 1) := by decide +kernel
theorem dX10_addDoor_12 : decode cX10_addDoor 12 = .ok (.aload_n 0, 1) := by decide +kernel
theorem dX10_addDoor_13 : decode cX10_addDoor 13 = .ok (.getfield 46, 3) := by decide +kernel
theorem dX10_addDoor_16 : decode cX10_addDoor 16 = .ok (.aload_n 0, 1) := by decide +kernel
theorem dX10_addDoor_17 : decode cX10_addDoor 17 = .ok (.getfield 15, 3) := by decide +kernel
theorem dX10_addDoor_20 : decode cX10_addDoor 20 = .ok (.iload_n 1, 1) := by decide +kernel
theorem dX10_addDoor_21 : decode cX10_addDoor 21 = .ok (.iastore, 1) := by decide +kernel
theorem dX10_addDoor_22 : decode cX10_addDoor 22 = .ok (.aload_n 0, 1) := by decide +kernel
theorem dX10_addDoor_23 : decode cX10_addDoor 23 = .ok (.getfield 49, 3) := by decide +kernel
theorem dX10_addDoor_26 : decode cX10_addDoor 26 = .ok (.aload_n 0, 1) := by decide +kernel
theorem dX10_addDoor_27 : decode cX10_addDoor 27 = .ok (.getfield 15, 3) := by decide +kernel
theorem dX10_addDoor_30 : decode cX10_addDoor 30 = .ok (.iload_n 2, 1) := by decide +kernel
theorem dX10_addDoor_31 : decode cX10_addDoor 31 = .ok (.iastore, 1) := by decide +kernel
theorem dX10_addDoor_32 : decode cX10_addDoor 32 = .ok (.aload_n 0, 1) := by decide +kernel
theorem dX10_addDoor_33 : decode cX10_addDoor 33 = .ok (.getfield 52, 3) := by decide +kernel
theorem dX10_addDoor_36 : decode cX10_addDoor 36 = .ok (.aload_n 0, 1) := by decide +kernel
theorem dX10_addDoor_37 : decode cX10_addDoor 37 = .ok (.getfield 15, 3) := by decide +kernel
theorem dX10_addDoor_40 : decode cX10_addDoor 40 = .ok (.iconst 1, 1) := by decide +kernel
theorem dX10_addDoor_41 : decode cX10_addDoor 41 = .ok (.iastore, 1) := by decide +kernel
theorem dX10_addDoor_42 : decode cX10_addDoor 42 = .ok (.aload_n 0, 1) := by decide +kernel
theorem dX10_addDoor_43 : decode cX10_addDoor 43 = .ok (.getfield 55, 3) := by decide +kernel
theorem dX10_addDoor_46 : decode cX10_addDoor 46 = .ok (.iconst 2, 1) := by decide +kernel
theorem dX10_addDoor_47 : decode cX10_addDoor 47 = .ok (.aload_n 0, 1) := by decide +kernel
theorem dX10_addDoor_48 : decode cX10_addDoor 48 = .ok (.getfield 15, 3) := by decide +kernel
theorem dX10_addDoor_51 : decode cX10_addDoor 51 = .ok (.imul, 1) := by decide +kernel
theorem dX10_addDoor_52 : decode cX10_addDoor 52 = .ok (.ldc 90, 2) := by decide +kernel
theorem dX10_addDoor_54 : decode cX10_addDoor 54 = .ok (.iastore, 1) := by decide +kernel
theorem dX10_addDoor_55 : decode cX10_addDoor 55 = .ok (.aload_n 0, 1) := by decide +kernel
theorem dX10_addDoor_56 : decode cX10_addDoor 56 = .ok (.getfield 55, 3) := by decide +kernel
theorem dX10_addDoor_59 : decode cX10_addDoor 59 = .ok (.iconst 2, 1) := by decide +kernel
theorem dX10_addDoor_60 : decode cX10_addDoor 60 = .ok (.aload_n 0, 1) := by decide +kernel
theorem dX10_addDoor_61 : decode cX10_addDoor 61 = .ok (.getfield 15, 3) := by decide +kernel
theorem dX10_addDoor_64 : decode cX10_addDoor 64 = .ok (.imul, 1) := by decide +kernel
theorem dX10_addDoor_65 : decode cX10_addDoor 65 = .ok (.iconst 1, 1) := by decide +kernel
theorem dX10_addDoor_66 : decode cX10_addDoor 66 = .ok (.iadd, 1) := by decide +kernel
theorem dX10_addDoor_67 : decode cX10_addDoor 67 = .ok (.ldc 90, 2) := by decide +kernel
theorem dX10_addDoor_69 : decode cX10_addDoor 69 = .ok (.iastore, 1) := by decide +kernel
theorem dX10_addDoor_70 : decode cX10_addDoor 70 = .ok (.aload_n 0, 1) := by decide +kernel
theorem dX10_addDoor_71 : decode cX10_addDoor 71 = .ok (.dup, 1) := by decide +kernel
theorem dX10_addDoor_72 : decode cX10_addDoor 72 = .ok (.getfield 15, 3) := by decide +kernel
theorem dX10_addDoor_75 : decode cX10_addDoor 75 = .ok (.iconst 1, 1) := by decide +kernel
theorem dX10_addDoor_76 : decode cX10_addDoor 76 = .ok (.iadd, 1) := by decide +kernel
theorem dX10_addDoor_77 : decode cX10_addDoor 77 = .ok (.putfield 15, 3) := by decide +kernel
theorem dX10_addDoor_80 : decode cX10_addDoor 80 = .ok (.aload_n 0, 1) := by decide +kernel
theorem dX10_addDoor_81 : decode cX10_addDoor 81 = .ok (.getfield 15, 3) := by decide +kernel
theorem dX10_addDoor_84 : decode cX10_addDoor 84 = .ok (.iconst 1, 1) := by decide +kernel
theorem dX10_addDoor_85 : decode cX10_addDoor 85 = .ok (.isub, 1) := by decide +kernel
theorem dX10_addDoor_86 : decode cX10_addDoor 86 = .ok (.ireturn, 1) := by decide +kernel
theorem dX10_draw_0 : decode cX10_draw 0 = .ok (.aload_n 0, 1) := by decide +kernel
theorem dX10_draw_1 : decode cX10_draw 1 = .ok (.aload_n 0, 1) := by decide +kernel
theorem dX10_draw_2 : decode cX10_draw 2 = .ok (.getfield 33, 3) := by decide +kernel
theorem dX10_draw_5 : decode cX10_draw 5 = .ok (.ldc 91, 2) := by decide +kernel
theorem dX10_draw_7 : decode cX10_draw 7 = .ok (.imul, 1) := by decide +kernel
theorem dX10_draw_8 : decode cX10_draw 8 = .ok (.sipush 12345, 3) := by decide +kernel
theorem dX10_draw_11 : decode cX10_draw 11 = .ok (.iadd, 1) := by decide +kernel
theorem dX10_draw_12 : decode cX10_draw 12 = .ok (.putfield 33, 3) := by decide +kernel
theorem dX10_draw_15 : decode cX10_draw 15 = .ok (.aload_n 0, 1) := by decide +kernel
theorem dX10_draw_16 : decode cX10_draw 16 = .ok (.getfield 33, 3) := by decide +kernel
theorem dX10_draw_19 : decode cX10_draw 19 = .ok (.bipush 8, 2) := by decide +kernel
theorem dX10_draw_21 : decode cX10_draw 21 = .ok (.iushr, 1) := by decide +kernel
theorem dX10_draw_22 : decode cX10_draw 22 = .ok (.ireturn, 1) := by decide +kernel
theorem dX10_doAgree_0 : decode cX10_doAgree 0 = .ok (.aload_n 0, 1) := by decide +kernel
theorem dX10_doAgree_1 : decode cX10_doAgree 1 = .ok (.iload_n 1, 1) := by decide +kernel
theorem dX10_doAgree_2 : decode cX10_doAgree 2 = .ok (.invokevirtual 92, 3) := by decide +kernel
theorem dX10_doAgree_5 : decode cX10_doAgree 5 = .ok (.ifCond .eq 28, 3) := by decide +kernel
theorem dX10_doAgree_8 : decode cX10_doAgree 8 = .ok (.aload_n 0, 1) := by decide +kernel
theorem dX10_doAgree_9 : decode cX10_doAgree 9 = .ok (.iload_n 2, 1) := by decide +kernel
theorem dX10_doAgree_10 : decode cX10_doAgree 10 = .ok (.invokevirtual 92, 3) := by decide +kernel
theorem dX10_doAgree_13 : decode cX10_doAgree 13 = .ok (.ifCond .eq 20, 3) := by decide +kernel
theorem dX10_doAgree_16 : decode cX10_doAgree 16 = .ok (.aload_n 0, 1) := by decide +kernel
theorem dX10_doAgree_17 : decode cX10_doAgree 17 = .ok (.getfield 43, 3) := by decide +kernel
theorem dX10_doAgree_20 : decode cX10_doAgree 20 = .ok (.iload_n 1, 1) := by decide +kernel
theorem dX10_doAgree_21 : decode cX10_doAgree 21 = .ok (.iaload, 1) := by decide +kernel
theorem dX10_doAgree_22 : decode cX10_doAgree 22 = .ok (.iload_n 2, 1) := by decide +kernel
theorem dX10_doAgree_23 : decode cX10_doAgree 23 = .ok (.ishr, 1) := by decide +kernel
theorem dX10_doAgree_24 : decode cX10_doAgree 24 = .ok (.iconst 1, 1) := by decide +kernel
theorem dX10_doAgree_25 : decode cX10_doAgree 25 = .ok (.iand, 1) := by decide +kernel
theorem dX10_doAgree_26 : decode cX10_doAgree 26 = .ok (.ifCond .eq 7, 3) := by decide +kernel
theorem dX10_doAgree_29 : decode cX10_doAgree 29 = .ok (.iconst 1, 1) := by decide +kernel
theorem dX10_doAgree_30 : decode cX10_doAgree 30 = .ok (.goto 4, 3) := by decide +kernel
theorem dX10_doAgree_33 : decode cX10_doAgree 33 = .ok (.iconst 0, 1) := by decide +kernel
theorem dX10_doAgree_34 : decode cX10_doAgree 34 = .ok (.ireturn, 1) := by decide +kernel
theorem dX10_load_0 : decode cX10_load 0 = .ok (.iconst 0, 1) := by decide +kernel
theorem dX10_load_1 : decode cX10_load 1 = .ok (.istore_n 3, 1) := by decide +kernel
theorem dX10_load_2 : decode cX10_load 2 = .ok (.iconst 0, 1) := by decide +kernel
theorem dX10_load_3 : decode cX10_load 3 = .ok (.istore 4, 2) := by decide +kernel
theorem dX10_load_5 : decode cX10_load 5 = .ok (.iload 4, 2) := by decide +kernel
theorem dX10_load_7 : decode cX10_load 7 = .ok (.iconst 2, 1) := by decide +kernel
theorem dX10_load_8 : decode cX10_load 8 = .ok (.aload_n 0, 1) := by decide +kernel
theorem dX10_load_9 : decode cX10_load 9 = .ok (.getfield 15, 3) := by decide +kernel
theorem dX10_load_12 : decode cX10_load 12 = .ok (.imul, 1) := by decide +kernel
theorem dX10_load_13 : decode cX10_load 13 = .ok (.if_icmp .ge 31, 3) := by decide +kernel
theorem dX10_load_16 : decode cX10_load 16 = .ok (.aload_n 0, 1) := by decide +kernel
theorem dX10_load_17 : decode cX10_load 17 = .ok (.getfield 55, 3) := by decide +kernel
theorem dX10_load_20 : decode cX10_load 20 = .ok (.iload 4, 2) := by decide +kernel
theorem dX10_load_22 : decode cX10_load 22 = .ok (.iaload, 1) := by decide +kernel
theorem dX10_load_23 : decode cX10_load 23 = .ok (.iload_n 1, 1) := by decide +kernel
theorem dX10_load_24 : decode cX10_load 24 = .ok (.if_icmp .ne 14, 3) := by decide +kernel
theorem dX10_load_27 : decode cX10_load 27 = .ok (.iload 4, 2) := by decide +kernel
theorem dX10_load_29 : decode cX10_load 29 = .ok (.iconst 2, 1) := by decide +kernel
theorem dX10_load_30 : decode cX10_load 30 = .ok (.idiv, 1) := by decide +kernel
theorem dX10_load_31 : decode cX10_load 31 = .ok (.iload_n 2, 1) := by decide +kernel
theorem dX10_load_32 : decode cX10_load 32 = .ok (.if_icmp .eq 6, 3) := by decide +kernel
theorem dX10_load_35 : decode cX10_load 35 = .ok (.iinc 3 1, 3) := by decide +kernel
theorem dX10_load_38 : decode cX10_load 38 = .ok (.iinc 4 1, 3) := by decide +kernel
theorem dX10_load_41 : decode cX10_load 41 = .ok (.goto (-36), 3) := by decide +kernel
theorem dX10_load_44 : decode cX10_load 44 = .ok (.iload_n 3, 1) := by decide +kernel
theorem dX10_load_45 : decode cX10_load 45 = .ok (.ireturn, 1) := by decide +kernel
theorem dX10_hears_0 : decode cX10_hears 0 = .ok (.iconst 0, 1) := by decide +kernel
theorem dX10_hears_1 : decode cX10_hears 1 = .ok (.istore_n 2, 1) := by decide +kernel
theorem dX10_hears_2 : decode cX10_hears 2 = .ok (.iconst 0, 1) := by decide +kernel
theorem dX10_hears_3 : decode cX10_hears 3 = .ok (.istore_n 3, 1) := by decide +kernel
theorem dX10_hears_4 : decode cX10_hears 4 = .ok (.iload_n 3, 1) := by decide +kernel
theorem dX10_hears_5 : decode cX10_hears 5 = .ok (.iconst 2, 1) := by decide +kernel
theorem dX10_hears_6 : decode cX10_hears 6 = .ok (.aload_n 0, 1) := by decide +kernel
theorem dX10_hears_7 : decode cX10_hears 7 = .ok (.getfield 15, 3) := by decide +kernel
theorem dX10_hears_10 : decode cX10_hears 10 = .ok (.imul, 1) := by decide +kernel
theorem dX10_hears_11 : decode cX10_hears 11 = .ok (.if_icmp .ge 30, 3) := by decide +kernel
theorem dX10_hears_14 : decode cX10_hears 14 = .ok (.aload_n 0, 1) := by decide +kernel
theorem dX10_hears_15 : decode cX10_hears 15 = .ok (.getfield 55, 3) := by decide +kernel
theorem dX10_hears_18 : decode cX10_hears 18 = .ok (.iload_n 3, 1) := by decide +kernel
theorem dX10_hears_19 : decode cX10_hears 19 = .ok (.iaload, 1) := by decide +kernel
theorem dX10_hears_20 : decode cX10_hears 20 = .ok (.iload_n 1, 1) := by decide +kernel
theorem dX10_hears_21 : decode cX10_hears 21 = .ok (.if_icmp .ne 14, 3) := by decide +kernel
theorem dX10_hears_24 : decode cX10_hears 24 = .ok (.iload_n 2, 1) := by decide +kernel
theorem dX10_hears_25 : decode cX10_hears 25 = .ok (.aload_n 0, 1) := by decide +kernel
theorem dX10_hears_26 : decode cX10_hears 26 = .ok (.getfield 52, 3) := by decide +kernel
theorem dX10_hears_29 : decode cX10_hears 29 = .ok (.iload_n 3, 1) := by decide +kernel
theorem dX10_hears_30 : decode cX10_hears 30 = .ok (.iconst 2, 1) := by decide +kernel
theorem dX10_hears_31 : decode cX10_hears 31 = .ok (.idiv, 1) := by decide +kernel
theorem dX10_hears_32 : decode cX10_hears 32 = .ok (.iaload, 1) := by decide +kernel
theorem dX10_hears_33 : decode cX10_hears 33 = .ok (.iadd, 1) := by decide +kernel
theorem dX10_hears_34 : decode cX10_hears 34 = .ok (.istore_n 2, 1) := by decide +kernel
theorem dX10_hears_35 : decode cX10_hears 35 = .ok (.iinc 3 1, 3) := by decide +kernel
theorem dX10_hears_38 : decode cX10_hears 38 = .ok (.goto (-34), 3) := by decide +kernel
theorem dX10_hears_41 : decode cX10_hears 41 = .ok (.iload_n 2, 1) := by decide +kernel
theorem dX10_hears_42 : decode cX10_hears 42 = .ok (.ireturn, 1) := by decide +kernel
theorem dX10_rings_0 : decode cX10_rings 0 = .ok (.iconst 0, 1) := by decide +kernel
theorem dX10_rings_1 : decode cX10_rings 1 = .ok (.istore_n 2, 1) := by decide +kernel
theorem dX10_rings_2 : decode cX10_rings 2 = .ok (.iconst 0, 1) := by decide +kernel
theorem dX10_rings_3 : decode cX10_rings 3 = .ok (.istore_n 3, 1) := by decide +kernel
theorem dX10_rings_4 : decode cX10_rings 4 = .ok (.iload_n 3, 1) := by decide +kernel
theorem dX10_rings_5 : decode cX10_rings 5 = .ok (.iconst 2, 1) := by decide +kernel
theorem dX10_rings_6 : decode cX10_rings 6 = .ok (.if_icmp .ge 45, 3) := by decide +kernel
theorem dX10_rings_9 : decode cX10_rings 9 = .ok (.aload_n 0, 1) := by decide +kernel
theorem dX10_rings_10 : decode cX10_rings 10 = .ok (.iload_n 1, 1) := by decide +kernel
theorem dX10_rings_11 : decode cX10_rings 11 = .ok (.invokevirtual 96, 3) := by decide +kernel
theorem dX10_rings_14 : decode cX10_rings 14 = .ok (.ifCond .eq 37, 3) := by decide +kernel
theorem dX10_rings_17 : decode cX10_rings 17 = .ok (.aload_n 0, 1) := by decide +kernel
theorem dX10_rings_18 : decode cX10_rings 18 = .ok (.getfield 55, 3) := by decide +kernel
theorem dX10_rings_21 : decode cX10_rings 21 = .ok (.iconst 2, 1) := by decide +kernel
theorem dX10_rings_22 : decode cX10_rings 22 = .ok (.iload_n 1, 1) := by decide +kernel
theorem dX10_rings_23 : decode cX10_rings 23 = .ok (.imul, 1) := by decide +kernel
theorem dX10_rings_24 : decode cX10_rings 24 = .ok (.iload_n 3, 1) := by decide +kernel
theorem dX10_rings_25 : decode cX10_rings 25 = .ok (.iadd, 1) := by decide +kernel
theorem dX10_rings_26 : decode cX10_rings 26 = .ok (.iaload, 1) := by decide +kernel
theorem dX10_rings_27 : decode cX10_rings 27 = .ok (.istore 4, 2) := by decide +kernel
theorem dX10_rings_29 : decode cX10_rings 29 = .ok (.aload_n 0, 1) := by decide +kernel
theorem dX10_rings_30 : decode cX10_rings 30 = .ok (.iload 4, 2) := by decide +kernel
theorem dX10_rings_32 : decode cX10_rings 32 = .ok (.invokevirtual 92, 3) := by decide +kernel
theorem dX10_rings_35 : decode cX10_rings 35 = .ok (.ifCond .eq 10, 3) := by decide +kernel
theorem dX10_rings_38 : decode cX10_rings 38 = .ok (.iload_n 2, 1) := by decide +kernel
theorem dX10_rings_39 : decode cX10_rings 39 = .ok (.iconst 1, 1) := by decide +kernel
theorem dX10_rings_40 : decode cX10_rings 40 = .ok (.iload 4, 2) := by decide +kernel
theorem dX10_rings_42 : decode cX10_rings 42 = .ok (.ishl, 1) := by decide +kernel
theorem dX10_rings_43 : decode cX10_rings 43 = .ok (.ior, 1) := by decide +kernel
theorem dX10_rings_44 : decode cX10_rings 44 = .ok (.istore_n 2, 1) := by decide +kernel
theorem dX10_rings_45 : decode cX10_rings 45 = .ok (.iinc 3 1, 3) := by decide +kernel
theorem dX10_rings_48 : decode cX10_rings 48 = .ok (.goto (-44), 3) := by decide +kernel
theorem dX10_rings_51 : decode cX10_rings 51 = .ok (.iload_n 2, 1) := by decide +kernel
theorem dX10_rings_52 : decode cX10_rings 52 = .ok (.ireturn, 1) := by decide +kernel
theorem dX10_lastOf_0 : decode cX10_lastOf 0 = .ok (.aload_n 0, 1) := by decide +kernel
theorem dX10_lastOf_1 : decode cX10_lastOf 1 = .ok (.getfield 21, 3) := by decide +kernel
theorem dX10_lastOf_4 : decode cX10_lastOf 4 = .ok (.iconst 1, 1) := by decide +kernel
theorem dX10_lastOf_5 : decode cX10_lastOf 5 = .ok (.isub, 1) := by decide +kernel
theorem dX10_lastOf_6 : decode cX10_lastOf 6 = .ok (.istore_n 2, 1) := by decide +kernel
theorem dX10_lastOf_7 : decode cX10_lastOf 7 = .ok (.iload_n 2, 1) := by decide +kernel
theorem dX10_lastOf_8 : decode cX10_lastOf 8 = .ok (.ifCond .lt 30, 3) := by decide +kernel
theorem dX10_lastOf_11 : decode cX10_lastOf 11 = .ok (.aload_n 0, 1) := by decide +kernel
theorem dX10_lastOf_12 : decode cX10_lastOf 12 = .ok (.getfield 66, 3) := by decide +kernel
theorem dX10_lastOf_15 : decode cX10_lastOf 15 = .ok (.iload_n 2, 1) := by decide +kernel
theorem dX10_lastOf_16 : decode cX10_lastOf 16 = .ok (.aaload, 1) := by decide +kernel
theorem dX10_lastOf_17 : decode cX10_lastOf 17 = .ok (.astore_n 3, 1) := by decide +kernel
theorem dX10_lastOf_18 : decode cX10_lastOf 18 = .ok (.aload_n 3, 1) := by decide +kernel
theorem dX10_lastOf_19 : decode cX10_lastOf 19 = .ok (.ifnull 13, 3) := by decide +kernel
theorem dX10_lastOf_22 : decode cX10_lastOf 22 = .ok (.aload_n 3, 1) := by decide +kernel
theorem dX10_lastOf_23 : decode cX10_lastOf 23 = .ok (.getfield 99, 3) := by decide +kernel
theorem dX10_lastOf_26 : decode cX10_lastOf 26 = .ok (.iload_n 1, 1) := by decide +kernel
theorem dX10_lastOf_27 : decode cX10_lastOf 27 = .ok (.if_icmp .ne 5, 3) := by decide +kernel
theorem dX10_lastOf_30 : decode cX10_lastOf 30 = .ok (.iload_n 2, 1) := by decide +kernel
theorem dX10_lastOf_31 : decode cX10_lastOf 31 = .ok (.ireturn, 1) := by decide +kernel
theorem dX10_lastOf_32 : decode cX10_lastOf 32 = .ok (.iinc 2 (-1), 3) := by decide +kernel
theorem dX10_lastOf_35 : decode cX10_lastOf 35 = .ok (.goto (-28), 3) := by decide +kernel
theorem dX10_lastOf_38 : decode cX10_lastOf 38 = .ok (.ldc 90, 2) := by decide +kernel
theorem dX10_lastOf_40 : decode cX10_lastOf 40 = .ok (.ireturn, 1) := by decide +kernel
theorem dX10_comesNow_0 : decode cX10_comesNow 0 = .ok (.aload_n 0, 1) := by decide +kernel
theorem dX10_comesNow_1 : decode cX10_comesNow 1 = .ok (.iload_n 1, 1) := by decide +kernel
theorem dX10_comesNow_2 : decode cX10_comesNow 2 = .ok (.invokevirtual 92, 3) := by decide +kernel
theorem dX10_comesNow_5 : decode cX10_comesNow 5 = .ok (.ifCond .ne 5, 3) := by decide +kernel
theorem dX10_comesNow_8 : decode cX10_comesNow 8 = .ok (.iconst 0, 1) := by decide +kernel
theorem dX10_comesNow_9 : decode cX10_comesNow 9 = .ok (.ireturn, 1) := by decide +kernel
theorem dX10_comesNow_10 : decode cX10_comesNow 10 = .ok (.aload_n 0, 1) := by decide +kernel
theorem dX10_comesNow_11 : decode cX10_comesNow 11 = .ok (.aload_n 0, 1) := by decide +kernel
theorem dX10_comesNow_12 : decode cX10_comesNow 12 = .ok (.iconst 0, 1) := by decide +kernel
theorem dX10_comesNow_13 : decode cX10_comesNow 13 = .ok (.invokevirtual 102, 3) := by decide +kernel
theorem dX10_comesNow_16 : decode cX10_comesNow 16 = .ok (.invokevirtual 106, 3) := by decide +kernel
theorem dX10_comesNow_19 : decode cX10_comesNow 19 = .ok (.astore_n 2, 1) := by decide +kernel
theorem dX10_comesNow_20 : decode cX10_comesNow 20 = .ok (.aload_n 0, 1) := by decide +kernel
theorem dX10_comesNow_21 : decode cX10_comesNow 21 = .ok (.iload_n 1, 1) := by decide +kernel
theorem dX10_comesNow_22 : decode cX10_comesNow 22 = .ok (.ldc 90, 2) := by decide +kernel
theorem dX10_comesNow_24 : decode cX10_comesNow 24 = .ok (.invokevirtual 110, 3) := by decide +kernel
theorem dX10_comesNow_27 : decode cX10_comesNow 27 = .ok (.istore_n 3, 1) := by decide +kernel
theorem dX10_comesNow_28 : decode cX10_comesNow 28 = .ok (.aload_n 2, 1) := by decide +kernel
theorem dX10_comesNow_29 : decode cX10_comesNow 29 = .ok (.ifnull 31, 3) := by decide +kernel
theorem dX10_comesNow_32 : decode cX10_comesNow 32 = .ok (.aload_n 2, 1) := by decide +kernel
theorem dX10_comesNow_33 : decode cX10_comesNow 33 = .ok (.aload_n 0, 1) := by decide +kernel
theorem dX10_comesNow_34 : decode cX10_comesNow 34 = .ok (.getfield 36, 3) := by decide +kernel
theorem dX10_comesNow_37 : decode cX10_comesNow 37 = .ok (.iload_n 1, 1) := by decide +kernel
theorem dX10_comesNow_38 : decode cX10_comesNow 38 = .ok (.iaload, 1) := by decide +kernel
theorem dX10_comesNow_39 : decode cX10_comesNow 39 = .ok (.aload_n 0, 1) := by decide +kernel
theorem dX10_comesNow_40 : decode cX10_comesNow 40 = .ok (.getfield 40, 3) := by decide +kernel
theorem dX10_comesNow_43 : decode cX10_comesNow 43 = .ok (.iload_n 1, 1) := by decide +kernel
theorem dX10_comesNow_44 : decode cX10_comesNow 44 = .ok (.iaload, 1) := by decide +kernel
theorem dX10_comesNow_45 : decode cX10_comesNow 45 = .ok (.iload_n 3, 1) := by decide +kernel
theorem dX10_comesNow_46 : decode cX10_comesNow 46 = .ok (.aload_n 0, 1) := by decide +kernel
theorem dX10_comesNow_47 : decode cX10_comesNow 47 = .ok (.getfield 24, 3) := by decide +kernel
theorem dX10_comesNow_50 : decode cX10_comesNow 50 = .ok (.invokevirtual 114, 3) := by decide +kernel
theorem dX10_comesNow_53 : decode cX10_comesNow 53 = .ok (.iconst 0, 1) := by decide +kernel
theorem dX10_comesNow_54 : decode cX10_comesNow 54 = .ok (.bipush 100, 2) := by decide +kernel
theorem dX10_comesNow_56 : decode cX10_comesNow 56 = .ok (.invokestatic 118, 3) := by decide +kernel
theorem dX10_comesNow_59 : decode cX10_comesNow 59 = .ok (.ireturn, 1) := by decide +kernel
theorem dX10_comesNow_60 : decode cX10_comesNow 60 = .ok (.bipush 10, 2) := by decide +kernel
theorem dX10_comesNow_62 : decode cX10_comesNow 62 = .ok (.iconst 0, 1) := by decide +kernel
theorem dX10_comesNow_63 : decode cX10_comesNow 63 = .ok (.iload_n 3, 1) := by decide +kernel
theorem dX10_comesNow_64 : decode cX10_comesNow 64 = .ok (.aload_n 0, 1) := by decide +kernel
theorem dX10_comesNow_65 : decode cX10_comesNow 65 = .ok (.getfield 24, 3) := by decide +kernel
theorem dX10_comesNow_68 : decode cX10_comesNow 68 = .ok (.isub, 1) := by decide +kernel
theorem dX10_comesNow_69 : decode cX10_comesNow 69 = .ok (.invokestatic 122, 3) := by decide +kernel
theorem dX10_comesNow_72 : decode cX10_comesNow 72 = .ok (.imul, 1) := by decide +kernel
theorem dX10_comesNow_73 : decode cX10_comesNow 73 = .ok (.istore 4, 2) := by decide +kernel
theorem dX10_comesNow_75 : decode cX10_comesNow 75 = .ok (.aload_n 0, 1) := by decide +kernel
theorem dX10_comesNow_76 : decode cX10_comesNow 76 = .ok (.getfield 36, 3) := by decide +kernel
theorem dX10_comesNow_79 : decode cX10_comesNow 79 = .ok (.iload_n 1, 1) := by decide +kernel
theorem dX10_comesNow_80 : decode cX10_comesNow 80 = .ok (.iaload, 1) := by decide +kernel
theorem dX10_comesNow_81 : decode cX10_comesNow 81 = .ok (.aload_n 0, 1) := by decide +kernel
theorem dX10_comesNow_82 : decode cX10_comesNow 82 = .ok (.getfield 40, 3) := by decide +kernel
theorem dX10_comesNow_85 : decode cX10_comesNow 85 = .ok (.iload_n 1, 1) := by decide +kernel
theorem dX10_comesNow_86 : decode cX10_comesNow 86 = .ok (.iaload, 1) := by decide +kernel
theorem dX10_comesNow_87 : decode cX10_comesNow 87 = .ok (.imul, 1) := by decide +kernel
theorem dX10_comesNow_88 : decode cX10_comesNow 88 = .ok (.bipush 100, 2) := by decide +kernel
theorem dX10_comesNow_90 : decode cX10_comesNow 90 = .ok (.idiv, 1) := by decide +kernel
theorem dX10_comesNow_91 : decode cX10_comesNow 91 = .ok (.iload 4, 2) := by decide +kernel
theorem dX10_comesNow_93 : decode cX10_comesNow 93 = .ok (.isub, 1) := by decide +kernel
theorem dX10_comesNow_94 : decode cX10_comesNow 94 = .ok (.iconst 0, 1) := by decide +kernel
theorem dX10_comesNow_95 : decode cX10_comesNow 95 = .ok (.bipush 100, 2) := by decide +kernel
theorem dX10_comesNow_97 : decode cX10_comesNow 97 = .ok (.invokestatic 118, 3) := by decide +kernel
theorem dX10_comesNow_100 : decode cX10_comesNow 100 = .ok (.ireturn, 1) := by decide +kernel
theorem dX10_listen_0 : decode cX10_listen 0 = .ok (.iconst 0, 1) := by decide +kernel
theorem dX10_listen_1 : decode cX10_listen 1 = .ok (.istore_n 1, 1) := by decide +kernel
theorem dX10_listen_2 : decode cX10_listen 2 = .ok (.iload_n 1, 1) := by decide +kernel
theorem dX10_listen_3 : decode cX10_listen 3 = .ok (.aload_n 0, 1) := by decide +kernel
theorem dX10_listen_4 : decode cX10_listen 4 = .ok (.getfield 9, 3) := by decide +kernel
theorem dX10_listen_7 : decode cX10_listen 7 = .ok (.if_icmp .ge 20, 3) := by decide +kernel
theorem dX10_listen_10 : decode cX10_listen 10 = .ok (.aload_n 0, 1) := by decide +kernel
theorem dX10_listen_11 : decode cX10_listen 11 = .ok (.getfield 70, 3) := by decide +kernel
theorem dX10_listen_14 : decode cX10_listen 14 = .ok (.iload_n 1, 1) := by decide +kernel
theorem dX10_listen_15 : decode cX10_listen 15 = .ok (.aload_n 0, 1) := by decide +kernel
theorem dX10_listen_16 : decode cX10_listen 16 = .ok (.iload_n 1, 1) := by decide +kernel
theorem dX10_listen_17 : decode cX10_listen 17 = .ok (.invokevirtual 127, 3) := by decide +kernel
theorem dX10_listen_20 : decode cX10_listen 20 = .ok (.iastore, 1) := by decide +kernel
theorem dX10_listen_21 : decode cX10_listen 21 = .ok (.iinc 1 1, 3) := by decide +kernel
theorem dX10_listen_24 : decode cX10_listen 24 = .ok (.goto (-22), 3) := by decide +kernel
theorem dX10_listen_27 : decode cX10_listen 27 = .ok (.return_, 1) := by decide +kernel
theorem dX10_missedBy_0 : decode cX10_missedBy 0 = .ok (.iconst 1, 1) := by decide +kernel
theorem dX10_missedBy_1 : decode cX10_missedBy 1 = .ok (.istore_n 3, 1) := by decide +kernel
theorem dX10_missedBy_2 : decode cX10_missedBy 2 = .ok (.iconst 0, 1) := by decide +kernel
theorem dX10_missedBy_3 : decode cX10_missedBy 3 = .ok (.istore 4, 2) := by decide +kernel
theorem dX10_missedBy_5 : decode cX10_missedBy 5 = .ok (.iload 4, 2) := by decide +kernel
theorem dX10_missedBy_7 : decode cX10_missedBy 7 = .ok (.iconst 2, 1) := by decide +kernel
theorem dX10_missedBy_8 : decode cX10_missedBy 8 = .ok (.if_icmp .ge 64, 3) := by decide +kernel
theorem dX10_missedBy_11 : decode cX10_missedBy 11 = .ok (.aload_n 0, 1) := by decide +kernel
theorem dX10_missedBy_12 : decode cX10_missedBy 12 = .ok (.iload_n 2, 1) := by decide +kernel
theorem dX10_missedBy_13 : decode cX10_missedBy 13 = .ok (.invokevirtual 96, 3) := by decide +kernel
theorem dX10_missedBy_16 : decode cX10_missedBy 16 = .ok (.ifCond .eq 56, 3) := by decide +kernel
theorem dX10_missedBy_19 : decode cX10_missedBy 19 = .ok (.aload_n 0, 1) := by decide +kernel
theorem dX10_missedBy_20 : decode cX10_missedBy 20 = .ok (.getfield 55, 3) := by decide +kernel
theorem dX10_missedBy_23 : decode cX10_missedBy 23 = .ok (.iconst 2, 1) := by decide +kernel
theorem dX10_missedBy_24 : decode cX10_missedBy 24 = .ok (.iload_n 2, 1) := by decide +kernel
theorem dX10_missedBy_25 : decode cX10_missedBy 25 = .ok (.imul, 1) := by decide +kernel
theorem dX10_missedBy_26 : decode cX10_missedBy 26 = .ok (.iload 4, 2) := by decide +kernel
theorem dX10_missedBy_28 : decode cX10_missedBy 28 = .ok (.iadd, 1) := by decide +kernel
theorem dX10_missedBy_29 : decode cX10_missedBy 29 = .ok (.iaload, 1) := by decide +kernel
theorem dX10_missedBy_30 : decode cX10_missedBy 30 = .ok (.istore 5, 2) := by decide +kernel
theorem dX10_missedBy_32 : decode cX10_missedBy 32 = .ok (.iload_n 3, 1) := by decide +kernel
theorem dX10_missedBy_33 : decode cX10_missedBy 33 = .ok (.aload_n 0, 1) := by decide +kernel
theorem dX10_missedBy_34 : decode cX10_missedBy 34 = .ok (.iload 5, 2) := by decide +kernel
theorem dX10_missedBy_36 : decode cX10_missedBy 36 = .ok (.invokevirtual 92, 3) := by decide +kernel
theorem dX10_missedBy_39 : decode cX10_missedBy 39 = .ok (.ifCond .eq 23, 3) := by decide +kernel
theorem dX10_missedBy_42 : decode cX10_missedBy 42 = .ok (.bipush 100, 2) := by decide +kernel
theorem dX10_missedBy_44 : decode cX10_missedBy 44 = .ok (.aload_n 1, 1) := by decide +kernel
theorem dX10_missedBy_45 : decode cX10_missedBy 45 = .ok (.aload_n 0, 1) := by decide +kernel
theorem dX10_missedBy_46 : decode cX10_missedBy 46 = .ok (.iload 5, 2) := by decide +kernel
theorem dX10_missedBy_48 : decode cX10_missedBy 48 = .ok (.aload_n 0, 1) := by decide +kernel
theorem dX10_missedBy_49 : decode cX10_missedBy 49 = .ok (.getfield 70, 3) := by decide +kernel
theorem dX10_missedBy_52 : decode cX10_missedBy 52 = .ok (.iload 5, 2) := by decide +kernel
theorem dX10_missedBy_54 : decode cX10_missedBy 54 = .ok (.iaload, 1) := by decide +kernel
theorem dX10_missedBy_55 : decode cX10_missedBy 55 = .ok (.invokevirtual 130, 3) := by decide +kernel
theorem dX10_missedBy_58 : decode cX10_missedBy 58 = .ok (.isub, 1) := by decide +kernel
theorem dX10_missedBy_59 : decode cX10_missedBy 59 = .ok (.goto 5, 3) := by decide +kernel
theorem dX10_missedBy_62 : decode cX10_missedBy 62 = .ok (.bipush 100, 2) := by decide +kernel
theorem dX10_missedBy_64 : decode cX10_missedBy 64 = .ok (.imul, 1) := by decide +kernel
theorem dX10_missedBy_65 : decode cX10_missedBy 65 = .ok (.istore_n 3, 1) := by decide +kernel
theorem dX10_missedBy_66 : decode cX10_missedBy 66 = .ok (.iinc 4 1, 3) := by decide +kernel
theorem dX10_missedBy_69 : decode cX10_missedBy 69 = .ok (.goto (-64), 3) := by decide +kernel
theorem dX10_missedBy_72 : decode cX10_missedBy 72 = .ok (.iload_n 3, 1) := by decide +kernel
theorem dX10_missedBy_73 : decode cX10_missedBy 73 = .ok (.ireturn, 1) := by decide +kernel
theorem dX10_gainOf_0 : decode cX10_gainOf 0 = .ok (.aload_n 0, 1) := by decide +kernel
theorem dX10_gainOf_1 : decode cX10_gainOf 1 = .ok (.iload_n 1, 1) := by decide +kernel
theorem dX10_gainOf_2 : decode cX10_gainOf 2 = .ok (.invokevirtual 96, 3) := by decide +kernel
theorem dX10_gainOf_5 : decode cX10_gainOf 5 = .ok (.ifCond .ne 5, 3) := by decide +kernel
theorem dX10_gainOf_8 : decode cX10_gainOf 8 = .ok (.iconst 0, 1) := by decide +kernel
theorem dX10_gainOf_9 : decode cX10_gainOf 9 = .ok (.ireturn, 1) := by decide +kernel
theorem dX10_gainOf_10 : decode cX10_gainOf 10 = .ok (.aload_n 0, 1) := by decide +kernel
theorem dX10_gainOf_11 : decode cX10_gainOf 11 = .ok (.aload_n 0, 1) := by decide +kernel
theorem dX10_gainOf_12 : decode cX10_gainOf 12 = .ok (.iconst 1, 1) := by decide +kernel
theorem dX10_gainOf_13 : decode cX10_gainOf 13 = .ok (.invokevirtual 102, 3) := by decide +kernel
theorem dX10_gainOf_16 : decode cX10_gainOf 16 = .ok (.invokevirtual 106, 3) := by decide +kernel
theorem dX10_gainOf_19 : decode cX10_gainOf 19 = .ok (.astore_n 3, 1) := by decide +kernel
theorem dX10_gainOf_20 : decode cX10_gainOf 20 = .ok (.aload_n 3, 1) := by decide +kernel
theorem dX10_gainOf_21 : decode cX10_gainOf 21 = .ok (.ifnonnull 18, 3) := by decide +kernel
theorem dX10_gainOf_24 : decode cX10_gainOf 24 = .ok (.aload_n 0, 1) := by decide +kernel
theorem dX10_gainOf_25 : decode cX10_gainOf 25 = .ok (.getfield 49, 3) := by decide +kernel
theorem dX10_gainOf_28 : decode cX10_gainOf 28 = .ok (.iload_n 1, 1) := by decide +kernel
theorem dX10_gainOf_29 : decode cX10_gainOf 29 = .ok (.iaload, 1) := by decide +kernel
theorem dX10_gainOf_30 : decode cX10_gainOf 30 = .ok (.iload_n 2, 1) := by decide +kernel
theorem dX10_gainOf_31 : decode cX10_gainOf 31 = .ok (.imul, 1) := by decide +kernel
theorem dX10_gainOf_32 : decode cX10_gainOf 32 = .ok (.sipush 10000, 3) := by decide +kernel
theorem dX10_gainOf_35 : decode cX10_gainOf 35 = .ok (.idiv, 1) := by decide +kernel
theorem dX10_gainOf_36 : decode cX10_gainOf 36 = .ok (.goto 16, 3) := by decide +kernel
theorem dX10_gainOf_39 : decode cX10_gainOf 39 = .ok (.aload_n 3, 1) := by decide +kernel
theorem dX10_gainOf_40 : decode cX10_gainOf 40 = .ok (.aload_n 0, 1) := by decide +kernel
theorem dX10_gainOf_41 : decode cX10_gainOf 41 = .ok (.getfield 49, 3) := by decide +kernel
theorem dX10_gainOf_44 : decode cX10_gainOf 44 = .ok (.iload_n 1, 1) := by decide +kernel
theorem dX10_gainOf_45 : decode cX10_gainOf 45 = .ok (.iaload, 1) := by decide +kernel
theorem dX10_gainOf_46 : decode cX10_gainOf 46 = .ok (.iload_n 2, 1) := by decide +kernel
theorem dX10_gainOf_47 : decode cX10_gainOf 47 = .ok (.iconst 0, 1) := by decide +kernel
theorem dX10_gainOf_48 : decode cX10_gainOf 48 = .ok (.iconst 0, 1) := by decide +kernel
theorem dX10_gainOf_49 : decode cX10_gainOf 49 = .ok (.invokevirtual 114, 3) := by decide +kernel
theorem dX10_gainOf_52 : decode cX10_gainOf 52 = .ok (.istore 4, 2) := by decide +kernel
theorem dX10_gainOf_54 : decode cX10_gainOf 54 = .ok (.iload 4, 2) := by decide +kernel
theorem dX10_gainOf_56 : decode cX10_gainOf 56 = .ok (.iconst 0, 1) := by decide +kernel
theorem dX10_gainOf_57 : decode cX10_gainOf 57 = .ok (.ldc 134, 2) := by decide +kernel
theorem dX10_gainOf_59 : decode cX10_gainOf 59 = .ok (.invokestatic 118, 3) := by decide +kernel
theorem dX10_gainOf_62 : decode cX10_gainOf 62 = .ok (.ireturn, 1) := by decide +kernel
theorem dX10_weigh_0 : decode cX10_weigh 0 = .ok (.aload_n 0, 1) := by decide +kernel
theorem dX10_weigh_1 : decode cX10_weigh 1 = .ok (.invokevirtual 135, 3) := by decide +kernel
theorem dX10_weigh_4 : decode cX10_weigh 4 = .ok (.iconst 0, 1) := by decide +kernel
theorem dX10_weigh_5 : decode cX10_weigh 5 = .ok (.istore_n 1, 1) := by decide +kernel
theorem dX10_weigh_6 : decode cX10_weigh 6 = .ok (.iload_n 1, 1) := by decide +kernel
theorem dX10_weigh_7 : decode cX10_weigh 7 = .ok (.aload_n 0, 1) := by decide +kernel
theorem dX10_weigh_8 : decode cX10_weigh 8 = .ok (.getfield 18, 3) := by decide +kernel
theorem dX10_weigh_11 : decode cX10_weigh 11 = .ok (.if_icmp .ge 75, 3) := by decide +kernel
theorem dX10_weigh_14 : decode cX10_weigh 14 = .ok (.aload_n 0, 1) := by decide +kernel
theorem dX10_weigh_15 : decode cX10_weigh 15 = .ok (.getfield 60, 3) := by decide +kernel
theorem dX10_weigh_18 : decode cX10_weigh 18 = .ok (.iload_n 1, 1) := by decide +kernel
theorem dX10_weigh_19 : decode cX10_weigh 19 = .ok (.aaload, 1) := by decide +kernel
theorem dX10_weigh_20 : decode cX10_weigh 20 = .ok (.astore_n 2, 1) := by decide +kernel
theorem dX10_weigh_21 : decode cX10_weigh 21 = .ok (.iconst 0, 1) := by decide +kernel
theorem dX10_weigh_22 : decode cX10_weigh 22 = .ok (.istore_n 3, 1) := by decide +kernel
theorem dX10_weigh_23 : decode cX10_weigh 23 = .ok (.iload_n 3, 1) := by decide +kernel
theorem dX10_weigh_24 : decode cX10_weigh 24 = .ok (.aload_n 0, 1) := by decide +kernel
theorem dX10_weigh_25 : decode cX10_weigh 25 = .ok (.getfield 15, 3) := by decide +kernel
theorem dX10_weigh_28 : decode cX10_weigh 28 = .ok (.if_icmp .ge 52, 3) := by decide +kernel
theorem dX10_weigh_31 : decode cX10_weigh 31 = .ok (.aload_n 2, 1) := by decide +kernel
theorem dX10_weigh_32 : decode cX10_weigh 32 = .ok (.ifnull 48, 3) := by decide +kernel
theorem dX10_weigh_35 : decode cX10_weigh 35 = .ok (.aload_n 0, 1) := by decide +kernel
theorem dX10_weigh_36 : decode cX10_weigh 36 = .ok (.aload_n 2, 1) := by decide +kernel
theorem dX10_weigh_37 : decode cX10_weigh 37 = .ok (.iload_n 3, 1) := by decide +kernel
theorem dX10_weigh_38 : decode cX10_weigh 38 = .ok (.invokevirtual 138, 3) := by decide +kernel
theorem dX10_weigh_41 : decode cX10_weigh 41 = .ok (.istore 4, 2) := by decide +kernel
theorem dX10_weigh_43 : decode cX10_weigh 43 = .ok (.aload_n 0, 1) := by decide +kernel
theorem dX10_weigh_44 : decode cX10_weigh 44 = .ok (.getfield 73, 3) := by decide +kernel
theorem dX10_weigh_47 : decode cX10_weigh 47 = .ok (.iload_n 1, 1) := by decide +kernel
theorem dX10_weigh_48 : decode cX10_weigh 48 = .ok (.bipush 12, 2) := by decide +kernel
theorem dX10_weigh_50 : decode cX10_weigh 50 = .ok (.imul, 1) := by decide +kernel
theorem dX10_weigh_51 : decode cX10_weigh 51 = .ok (.iload_n 3, 1) := by decide +kernel
theorem dX10_weigh_52 : decode cX10_weigh 52 = .ok (.iadd, 1) := by decide +kernel
theorem dX10_weigh_53 : decode cX10_weigh 53 = .ok (.iload 4, 2) := by decide +kernel
theorem dX10_weigh_55 : decode cX10_weigh 55 = .ok (.iastore, 1) := by decide +kernel
theorem dX10_weigh_56 : decode cX10_weigh 56 = .ok (.aload_n 0, 1) := by decide +kernel
theorem dX10_weigh_57 : decode cX10_weigh 57 = .ok (.getfield 76, 3) := by decide +kernel
theorem dX10_weigh_60 : decode cX10_weigh 60 = .ok (.iload_n 1, 1) := by decide +kernel
theorem dX10_weigh_61 : decode cX10_weigh 61 = .ok (.bipush 12, 2) := by decide +kernel
theorem dX10_weigh_63 : decode cX10_weigh 63 = .ok (.imul, 1) := by decide +kernel
theorem dX10_weigh_64 : decode cX10_weigh 64 = .ok (.iload_n 3, 1) := by decide +kernel
theorem dX10_weigh_65 : decode cX10_weigh 65 = .ok (.iadd, 1) := by decide +kernel
theorem dX10_weigh_66 : decode cX10_weigh 66 = .ok (.aload_n 0, 1) := by decide +kernel
theorem dX10_weigh_67 : decode cX10_weigh 67 = .ok (.iload_n 3, 1) := by decide +kernel
theorem dX10_weigh_68 : decode cX10_weigh 68 = .ok (.iload 4, 2) := by decide +kernel
theorem dX10_weigh_70 : decode cX10_weigh 70 = .ok (.invokevirtual 142, 3) := by decide +kernel
theorem dX10_weigh_73 : decode cX10_weigh 73 = .ok (.iastore, 1) := by decide +kernel
theorem dX10_weigh_74 : decode cX10_weigh 74 = .ok (.iinc 3 1, 3) := by decide +kernel
theorem dX10_weigh_77 : decode cX10_weigh 77 = .ok (.goto (-54), 3) := by decide +kernel
theorem dX10_weigh_80 : decode cX10_weigh 80 = .ok (.iinc 1 1, 3) := by decide +kernel
theorem dX10_weigh_83 : decode cX10_weigh 83 = .ok (.goto (-77), 3) := by decide +kernel
theorem dX10_weigh_86 : decode cX10_weigh 86 = .ok (.return_, 1) := by decide +kernel
theorem dX10_greatest_0 : decode cX10_greatest 0 = .ok (.ldc 90, 2) := by decide +kernel
theorem dX10_greatest_2 : decode cX10_greatest 2 = .ok (.istore 4, 2) := by decide +kernel
theorem dX10_greatest_4 : decode cX10_greatest 4 = .ok (.iload_n 3, 1) := by decide +kernel
theorem dX10_greatest_5 : decode cX10_greatest 5 = .ok (.ifCond .lt 14, 3) := by decide +kernel
theorem dX10_greatest_8 : decode cX10_greatest 8 = .ok (.iload_n 3, 1) := by decide +kernel
theorem dX10_greatest_9 : decode cX10_greatest 9 = .ok (.aload_n 2, 1) := by decide +kernel
theorem dX10_greatest_10 : decode cX10_greatest 10 = .ok (.arraylength, 1) := by decide +kernel
theorem dX10_greatest_11 : decode cX10_greatest 11 = .ok (.aload_n 0, 1) := by decide +kernel
theorem dX10_greatest_12 : decode cX10_greatest 12 = .ok (.getfield 15, 3) := by decide +kernel
theorem dX10_greatest_15 : decode cX10_greatest 15 = .ok (.isub, 1) := by decide +kernel
theorem dX10_greatest_16 : decode cX10_greatest 16 = .ok (.if_icmp .le 6, 3) := by decide +kernel
theorem dX10_greatest_19 : decode cX10_greatest 19 = .ok (.iload 4, 2) := by decide +kernel
theorem dX10_greatest_21 : decode cX10_greatest 21 = .ok (.ireturn, 1) := by decide +kernel
theorem dX10_greatest_22 : decode cX10_greatest 22 = .ok (.iconst 0, 1) := by decide +kernel
theorem dX10_greatest_23 : decode cX10_greatest 23 = .ok (.istore 5, 2) := by decide +kernel
theorem dX10_greatest_25 : decode cX10_greatest 25 = .ok (.iload 5, 2) := by decide +kernel
theorem dX10_greatest_27 : decode cX10_greatest 27 = .ok (.aload_n 0, 1) := by decide +kernel
theorem dX10_greatest_28 : decode cX10_greatest 28 = .ok (.getfield 15, 3) := by decide +kernel
theorem dX10_greatest_31 : decode cX10_greatest 31 = .ok (.if_icmp .ge 46, 3) := by decide +kernel
theorem dX10_greatest_34 : decode cX10_greatest 34 = .ok (.aload_n 0, 1) := by decide +kernel
theorem dX10_greatest_35 : decode cX10_greatest 35 = .ok (.getfield 46, 3) := by decide +kernel
theorem dX10_greatest_38 : decode cX10_greatest 38 = .ok (.iload 5, 2) := by decide +kernel
theorem dX10_greatest_40 : decode cX10_greatest 40 = .ok (.iaload, 1) := by decide +kernel
theorem dX10_greatest_41 : decode cX10_greatest 41 = .ok (.iload_n 1, 1) := by decide +kernel
theorem dX10_greatest_42 : decode cX10_greatest 42 = .ok (.if_icmp .eq 29, 3) := by decide +kernel
theorem dX10_greatest_45 : decode cX10_greatest 45 = .ok (.iload 4, 2) := by decide +kernel
theorem dX10_greatest_47 : decode cX10_greatest 47 = .ok (.ldc 90, 2) := by decide +kernel
theorem dX10_greatest_49 : decode cX10_greatest 49 = .ok (.if_icmp .eq 18, 3) := by decide +kernel
theorem dX10_greatest_52 : decode cX10_greatest 52 = .ok (.aload_n 2, 1) := by decide +kernel
theorem dX10_greatest_53 : decode cX10_greatest 53 = .ok (.iload_n 3, 1) := by decide +kernel
theorem dX10_greatest_54 : decode cX10_greatest 54 = .ok (.iload 5, 2) := by decide +kernel
theorem dX10_greatest_56 : decode cX10_greatest 56 = .ok (.iadd, 1) := by decide +kernel
theorem dX10_greatest_57 : decode cX10_greatest 57 = .ok (.iaload, 1) := by decide +kernel
theorem dX10_greatest_58 : decode cX10_greatest 58 = .ok (.aload_n 2, 1) := by decide +kernel
theorem dX10_greatest_59 : decode cX10_greatest 59 = .ok (.iload_n 3, 1) := by decide +kernel
theorem dX10_greatest_60 : decode cX10_greatest 60 = .ok (.iload 4, 2) := by decide +kernel
theorem dX10_greatest_62 : decode cX10_greatest 62 = .ok (.iadd, 1) := by decide +kernel
theorem dX10_greatest_63 : decode cX10_greatest 63 = .ok (.iaload, 1) := by decide +kernel
theorem dX10_greatest_64 : decode cX10_greatest 64 = .ok (.if_icmp .le 7, 3) := by decide +kernel
theorem dX10_greatest_67 : decode cX10_greatest 67 = .ok (.iload 5, 2) := by decide +kernel
theorem dX10_greatest_69 : decode cX10_greatest 69 = .ok (.istore 4, 2) := by decide +kernel
theorem dX10_greatest_71 : decode cX10_greatest 71 = .ok (.iinc 5 1, 3) := by decide +kernel
theorem dX10_greatest_74 : decode cX10_greatest 74 = .ok (.goto (-49), 3) := by decide +kernel
theorem dX10_greatest_77 : decode cX10_greatest 77 = .ok (.iload 4, 2) := by decide +kernel
theorem dX10_greatest_79 : decode cX10_greatest 79 = .ok (.ireturn, 1) := by decide +kernel
theorem dX10_byLot_0 : decode cX10_byLot 0 = .ok (.aload_n 0, 1) := by decide +kernel
theorem dX10_byLot_1 : decode cX10_byLot 1 = .ok (.getfield 15, 3) := by decide +kernel
theorem dX10_byLot_4 : decode cX10_byLot 4 = .ok (.ifCond .eq 18, 3) := by decide +kernel
theorem dX10_byLot_7 : decode cX10_byLot 7 = .ok (.aload_n 0, 1) := by decide +kernel
theorem dX10_byLot_8 : decode cX10_byLot 8 = .ok (.iload_n 1, 1) := by decide +kernel
theorem dX10_byLot_9 : decode cX10_byLot 9 = .ok (.aload_n 0, 1) := by decide +kernel
theorem dX10_byLot_10 : decode cX10_byLot 10 = .ok (.getfield 49, 3) := by decide +kernel
theorem dX10_byLot_13 : decode cX10_byLot 13 = .ok (.iconst 0, 1) := by decide +kernel
theorem dX10_byLot_14 : decode cX10_byLot 14 = .ok (.invokevirtual 145, 3) := by decide +kernel
theorem dX10_byLot_17 : decode cX10_byLot 17 = .ok (.ldc 90, 2) := by decide +kernel
theorem dX10_byLot_19 : decode cX10_byLot 19 = .ok (.if_icmp .ne 6, 3) := by decide +kernel
theorem dX10_byLot_22 : decode cX10_byLot 22 = .ok (.ldc 90, 2) := by decide +kernel
theorem dX10_byLot_24 : decode cX10_byLot 24 = .ok (.ireturn, 1) := by decide +kernel
theorem dX10_byLot_25 : decode cX10_byLot 25 = .ok (.aload_n 0, 1) := by decide +kernel
theorem dX10_byLot_26 : decode cX10_byLot 26 = .ok (.invokevirtual 149, 3) := by decide +kernel
theorem dX10_byLot_29 : decode cX10_byLot 29 = .ok (.aload_n 0, 1) := by decide +kernel
theorem dX10_byLot_30 : decode cX10_byLot 30 = .ok (.getfield 15, 3) := by decide +kernel
theorem dX10_byLot_33 : decode cX10_byLot 33 = .ok (.irem, 1) := by decide +kernel
theorem dX10_byLot_34 : decode cX10_byLot 34 = .ok (.istore_n 2, 1) := by decide +kernel
theorem dX10_byLot_35 : decode cX10_byLot 35 = .ok (.iconst 0, 1) := by decide +kernel
theorem dX10_byLot_36 : decode cX10_byLot 36 = .ok (.istore_n 3, 1) := by decide +kernel
theorem dX10_byLot_37 : decode cX10_byLot 37 = .ok (.iload_n 3, 1) := by decide +kernel
theorem dX10_byLot_38 : decode cX10_byLot 38 = .ok (.aload_n 0, 1) := by decide +kernel
theorem dX10_byLot_39 : decode cX10_byLot 39 = .ok (.getfield 15, 3) := by decide +kernel
theorem dX10_byLot_42 : decode cX10_byLot 42 = .ok (.if_icmp .ge 33, 3) := by decide +kernel
theorem dX10_byLot_45 : decode cX10_byLot 45 = .ok (.iload_n 2, 1) := by decide +kernel
theorem dX10_byLot_46 : decode cX10_byLot 46 = .ok (.iload_n 3, 1) := by decide +kernel
theorem dX10_byLot_47 : decode cX10_byLot 47 = .ok (.iadd, 1) := by decide +kernel
theorem dX10_byLot_48 : decode cX10_byLot 48 = .ok (.aload_n 0, 1) := by decide +kernel
theorem dX10_byLot_49 : decode cX10_byLot 49 = .ok (.getfield 15, 3) := by decide +kernel
theorem dX10_byLot_52 : decode cX10_byLot 52 = .ok (.irem, 1) := by decide +kernel
theorem dX10_byLot_53 : decode cX10_byLot 53 = .ok (.istore 4, 2) := by decide +kernel
theorem dX10_byLot_55 : decode cX10_byLot 55 = .ok (.aload_n 0, 1) := by decide +kernel
theorem dX10_byLot_56 : decode cX10_byLot 56 = .ok (.getfield 46, 3) := by decide +kernel
theorem dX10_byLot_59 : decode cX10_byLot 59 = .ok (.iload 4, 2) := by decide +kernel
theorem dX10_byLot_61 : decode cX10_byLot 61 = .ok (.iaload, 1) := by decide +kernel
theorem dX10_byLot_62 : decode cX10_byLot 62 = .ok (.iload_n 1, 1) := by decide +kernel
theorem dX10_byLot_63 : decode cX10_byLot 63 = .ok (.if_icmp .eq 6, 3) := by decide +kernel
theorem dX10_byLot_66 : decode cX10_byLot 66 = .ok (.iload 4, 2) := by decide +kernel
theorem dX10_byLot_68 : decode cX10_byLot 68 = .ok (.ireturn, 1) := by decide +kernel
theorem dX10_byLot_69 : decode cX10_byLot 69 = .ok (.iinc 3 1, 3) := by decide +kernel
theorem dX10_byLot_72 : decode cX10_byLot 72 = .ok (.goto (-35), 3) := by decide +kernel
theorem dX10_byLot_75 : decode cX10_byLot 75 = .ok (.ldc 90, 2) := by decide +kernel
theorem dX10_byLot_77 : decode cX10_byLot 77 = .ok (.ireturn, 1) := by decide +kernel
theorem dX10_night_0 : decode cX10_night 0 = .ok (.iconst 0, 1) := by decide +kernel
theorem dX10_night_1 : decode cX10_night 1 = .ok (.istore_n 1, 1) := by decide +kernel
theorem dX10_night_2 : decode cX10_night 2 = .ok (.iload_n 1, 1) := by decide +kernel
theorem dX10_night_3 : decode cX10_night 3 = .ok (.aload_n 0, 1) := by decide +kernel
theorem dX10_night_4 : decode cX10_night 4 = .ok (.getfield 18, 3) := by decide +kernel
theorem dX10_night_7 : decode cX10_night 7 = .ok (.if_icmp .ge 90, 3) := by decide +kernel
theorem dX10_night_10 : decode cX10_night 10 = .ok (.aload_n 0, 1) := by decide +kernel
theorem dX10_night_11 : decode cX10_night 11 = .ok (.getfield 60, 3) := by decide +kernel
theorem dX10_night_14 : decode cX10_night 14 = .ok (.iload_n 1, 1) := by decide +kernel
theorem dX10_night_15 : decode cX10_night 15 = .ok (.aaload, 1) := by decide +kernel
theorem dX10_night_16 : decode cX10_night 16 = .ok (.astore_n 2, 1) := by decide +kernel
theorem dX10_night_17 : decode cX10_night 17 = .ok (.aload_n 2, 1) := by decide +kernel
theorem dX10_night_18 : decode cX10_night 18 = .ok (.ifnonnull 8, 3) := by decide +kernel
theorem dX10_night_21 : decode cX10_night 21 = .ok (.ldc 90, 2) := by decide +kernel
theorem dX10_night_23 : decode cX10_night 23 = .ok (.goto 9, 3) := by decide +kernel
theorem dX10_night_26 : decode cX10_night 26 = .ok (.aload_n 2, 1) := by decide +kernel
theorem dX10_night_27 : decode cX10_night 27 = .ok (.aload_n 0, 1) := by decide +kernel
theorem dX10_night_28 : decode cX10_night 28 = .ok (.iload_n 1, 1) := by decide +kernel
theorem dX10_night_29 : decode cX10_night 29 = .ok (.invokevirtual 153, 3) := by decide +kernel
theorem dX10_night_32 : decode cX10_night 32 = .ok (.istore_n 3, 1) := by decide +kernel
theorem dX10_night_33 : decode cX10_night 33 = .ok (.aload_n 0, 1) := by decide +kernel
theorem dX10_night_34 : decode cX10_night 34 = .ok (.iload_n 3, 1) := by decide +kernel
theorem dX10_night_35 : decode cX10_night 35 = .ok (.invokevirtual 96, 3) := by decide +kernel
theorem dX10_night_38 : decode cX10_night 38 = .ok (.ifCond .eq 53, 3) := by decide +kernel
theorem dX10_night_41 : decode cX10_night 41 = .ok (.aload_n 0, 1) := by decide +kernel
theorem dX10_night_42 : decode cX10_night 42 = .ok (.invokevirtual 149, 3) := by decide +kernel
theorem dX10_night_45 : decode cX10_night 45 = .ok (.sipush 10000, 3) := by decide +kernel
theorem dX10_night_48 : decode cX10_night 48 = .ok (.irem, 1) := by decide +kernel
theorem dX10_night_49 : decode cX10_night 49 = .ok (.aload_n 0, 1) := by decide +kernel
theorem dX10_night_50 : decode cX10_night 50 = .ok (.getfield 73, 3) := by decide +kernel
theorem dX10_night_53 : decode cX10_night 53 = .ok (.iload_n 1, 1) := by decide +kernel
theorem dX10_night_54 : decode cX10_night 54 = .ok (.bipush 12, 2) := by decide +kernel
theorem dX10_night_56 : decode cX10_night 56 = .ok (.imul, 1) := by decide +kernel
theorem dX10_night_57 : decode cX10_night 57 = .ok (.iload_n 3, 1) := by decide +kernel
theorem dX10_night_58 : decode cX10_night 58 = .ok (.iadd, 1) := by decide +kernel
theorem dX10_night_59 : decode cX10_night 59 = .ok (.iaload, 1) := by decide +kernel
theorem dX10_night_60 : decode cX10_night 60 = .ok (.if_icmp .ge 21, 3) := by decide +kernel
theorem dX10_night_63 : decode cX10_night 63 = .ok (.aload_n 0, 1) := by decide +kernel
theorem dX10_night_64 : decode cX10_night 64 = .ok (.dup, 1) := by decide +kernel
theorem dX10_night_65 : decode cX10_night 65 = .ok (.getfield 27, 3) := by decide +kernel
theorem dX10_night_68 : decode cX10_night 68 = .ok (.aload_n 0, 1) := by decide +kernel
theorem dX10_night_69 : decode cX10_night 69 = .ok (.getfield 49, 3) := by decide +kernel
theorem dX10_night_72 : decode cX10_night 72 = .ok (.iload_n 3, 1) := by decide +kernel
theorem dX10_night_73 : decode cX10_night 73 = .ok (.iaload, 1) := by decide +kernel
theorem dX10_night_74 : decode cX10_night 74 = .ok (.iadd, 1) := by decide +kernel
theorem dX10_night_75 : decode cX10_night 75 = .ok (.putfield 27, 3) := by decide +kernel
theorem dX10_night_78 : decode cX10_night 78 = .ok (.goto 13, 3) := by decide +kernel
theorem dX10_night_81 : decode cX10_night 81 = .ok (.aload_n 0, 1) := by decide +kernel
theorem dX10_night_82 : decode cX10_night 82 = .ok (.dup, 1) := by decide +kernel
theorem dX10_night_83 : decode cX10_night 83 = .ok (.getfield 30, 3) := by decide +kernel
theorem dX10_night_86 : decode cX10_night 86 = .ok (.iconst 1, 1) := by decide +kernel
theorem dX10_night_87 : decode cX10_night 87 = .ok (.iadd, 1) := by decide +kernel
theorem dX10_night_88 : decode cX10_night 88 = .ok (.putfield 30, 3) := by decide +kernel
theorem dX10_night_91 : decode cX10_night 91 = .ok (.iinc 1 1, 3) := by decide +kernel
theorem dX10_night_94 : decode cX10_night 94 = .ok (.goto (-92), 3) := by decide +kernel
theorem dX10_night_97 : decode cX10_night 97 = .ok (.return_, 1) := by decide +kernel
theorem dX10_wouldBeLawful_0 : decode cX10_wouldBeLawful 0 = .ok (.aload_n 0, 1) := by decide +kernel
theorem dX10_wouldBeLawful_1 : decode cX10_wouldBeLawful 1 = .ok (.iload_n 1, 1) := by decide +kernel
theorem dX10_wouldBeLawful_2 : decode cX10_wouldBeLawful 2 = .ok (.invokevirtual 96, 3) := by decide +kernel
theorem dX10_wouldBeLawful_5 : decode cX10_wouldBeLawful 5 = .ok (.ifCond .eq 24, 3) := by decide +kernel
theorem dX10_wouldBeLawful_8 : decode cX10_wouldBeLawful 8 = .ok (.aload_n 0, 1) := by decide +kernel
theorem dX10_wouldBeLawful_9 : decode cX10_wouldBeLawful 9 = .ok (.iload_n 2, 1) := by decide +kernel
theorem dX10_wouldBeLawful_10 : decode cX10_wouldBeLawful 10 = .ok (.invokevirtual 92, 3) := by decide +kernel
theorem dX10_wouldBeLawful_13 : decode cX10_wouldBeLawful 13 = .ok (.ifCond .eq 16, 3) := by decide +kernel
theorem dX10_wouldBeLawful_16 : decode cX10_wouldBeLawful 16 = .ok (.aload_n 0, 1) := by decide +kernel
theorem dX10_wouldBeLawful_17 : decode cX10_wouldBeLawful 17 = .ok (.iload_n 3, 1) := by decide +kernel
theorem dX10_wouldBeLawful_18 : decode cX10_wouldBeLawful 18 = .ok (.invokevirtual 92, 3) := by decide +kernel
theorem dX10_wouldBeLawful_21 : decode cX10_wouldBeLawful 21 = .ok (.ifCond .eq 8, 3) := by decide +kernel
theorem dX10_wouldBeLawful_24 : decode cX10_wouldBeLawful 24 = .ok (.iload_n 2, 1) := by decide +kernel
theorem dX10_wouldBeLawful_25 : decode cX10_wouldBeLawful 25 = .ok (.iload_n 3, 1) := by decide +kernel
theorem dX10_wouldBeLawful_26 : decode cX10_wouldBeLawful 26 = .ok (.if_icmp .ne 5, 3) := by decide +kernel
theorem dX10_wouldBeLawful_29 : decode cX10_wouldBeLawful 29 = .ok (.iconst 0, 1) := by decide +kernel
theorem dX10_wouldBeLawful_30 : decode cX10_wouldBeLawful 30 = .ok (.ireturn, 1) := by decide +kernel
theorem dX10_wouldBeLawful_31 : decode cX10_wouldBeLawful 31 = .ok (.aload_n 0, 1) := by decide +kernel
theorem dX10_wouldBeLawful_32 : decode cX10_wouldBeLawful 32 = .ok (.getfield 46, 3) := by decide +kernel
theorem dX10_wouldBeLawful_35 : decode cX10_wouldBeLawful 35 = .ok (.iload_n 1, 1) := by decide +kernel
theorem dX10_wouldBeLawful_36 : decode cX10_wouldBeLawful 36 = .ok (.iaload, 1) := by decide +kernel
theorem dX10_wouldBeLawful_37 : decode cX10_wouldBeLawful 37 = .ok (.istore 4, 2) := by decide +kernel
theorem dX10_wouldBeLawful_39 : decode cX10_wouldBeLawful 39 = .ok (.iload_n 2, 1) := by decide +kernel
theorem dX10_wouldBeLawful_40 : decode cX10_wouldBeLawful 40 = .ok (.iload 4, 2) := by decide +kernel
theorem dX10_wouldBeLawful_42 : decode cX10_wouldBeLawful 42 = .ok (.if_icmp .eq 18, 3) := by decide +kernel
theorem dX10_wouldBeLawful_45 : decode cX10_wouldBeLawful 45 = .ok (.iload_n 3, 1) := by decide +kernel
theorem dX10_wouldBeLawful_46 : decode cX10_wouldBeLawful 46 = .ok (.iload 4, 2) := by decide +kernel
theorem dX10_wouldBeLawful_48 : decode cX10_wouldBeLawful 48 = .ok (.if_icmp .eq 12, 3) := by decide +kernel
theorem dX10_wouldBeLawful_51 : decode cX10_wouldBeLawful 51 = .ok (.aload_n 0, 1) := by decide +kernel
theorem dX10_wouldBeLawful_52 : decode cX10_wouldBeLawful 52 = .ok (.iload_n 2, 1) := by decide +kernel
theorem dX10_wouldBeLawful_53 : decode cX10_wouldBeLawful 53 = .ok (.iload_n 3, 1) := by decide +kernel
theorem dX10_wouldBeLawful_54 : decode cX10_wouldBeLawful 54 = .ok (.invokevirtual 157, 3) := by decide +kernel
theorem dX10_wouldBeLawful_57 : decode cX10_wouldBeLawful 57 = .ok (.ifCond .eq 5, 3) := by decide +kernel
theorem dX10_wouldBeLawful_60 : decode cX10_wouldBeLawful 60 = .ok (.iconst 0, 1) := by decide +kernel
theorem dX10_wouldBeLawful_61 : decode cX10_wouldBeLawful 61 = .ok (.ireturn, 1) := by decide +kernel
theorem dX10_wouldBeLawful_62 : decode cX10_wouldBeLawful 62 = .ok (.aload_n 0, 1) := by decide +kernel
theorem dX10_wouldBeLawful_63 : decode cX10_wouldBeLawful 63 = .ok (.aload_n 0, 1) := by decide +kernel
theorem dX10_wouldBeLawful_64 : decode cX10_wouldBeLawful 64 = .ok (.iconst 2, 1) := by decide +kernel
theorem dX10_wouldBeLawful_65 : decode cX10_wouldBeLawful 65 = .ok (.invokevirtual 102, 3) := by decide +kernel
theorem dX10_wouldBeLawful_68 : decode cX10_wouldBeLawful 68 = .ok (.invokevirtual 106, 3) := by decide +kernel
theorem dX10_wouldBeLawful_71 : decode cX10_wouldBeLawful 71 = .ok (.astore 5, 2) := by decide +kernel
theorem dX10_wouldBeLawful_73 : decode cX10_wouldBeLawful 73 = .ok (.aload 5, 2) := by decide +kernel
theorem dX10_wouldBeLawful_75 : decode cX10_wouldBeLawful 75 = .ok (.ifnull 24, 3) := by decide +kernel
theorem dX10_wouldBeLawful_78 : decode cX10_wouldBeLawful 78 = .ok (.aload 5, 2) := by decide +kernel
theorem dX10_wouldBeLawful_80 : decode cX10_wouldBeLawful 80 = .ok (.iload_n 2, 1) := by decide +kernel
theorem dX10_wouldBeLawful_81 : decode cX10_wouldBeLawful 81 = .ok (.iload_n 3, 1) := by decide +kernel
theorem dX10_wouldBeLawful_82 : decode cX10_wouldBeLawful 82 = .ok (.invokestatic 161, 3) := by decide +kernel
theorem dX10_wouldBeLawful_85 : decode cX10_wouldBeLawful 85 = .ok (.iload_n 2, 1) := by decide +kernel
theorem dX10_wouldBeLawful_86 : decode cX10_wouldBeLawful 86 = .ok (.iload_n 3, 1) := by decide +kernel
theorem dX10_wouldBeLawful_87 : decode cX10_wouldBeLawful 87 = .ok (.invokestatic 122, 3) := by decide +kernel
theorem dX10_wouldBeLawful_90 : decode cX10_wouldBeLawful 90 = .ok (.iload 4, 2) := by decide +kernel
theorem dX10_wouldBeLawful_92 : decode cX10_wouldBeLawful 92 = .ok (.iconst 0, 1) := by decide +kernel
theorem dX10_wouldBeLawful_93 : decode cX10_wouldBeLawful 93 = .ok (.invokevirtual 114, 3) := by decide +kernel
theorem dX10_wouldBeLawful_96 : decode cX10_wouldBeLawful 96 = .ok (.ifCond .eq 7, 3) := by decide +kernel
theorem dX10_wouldBeLawful_99 : decode cX10_wouldBeLawful 99 = .ok (.iconst 1, 1) := by decide +kernel
theorem dX10_wouldBeLawful_100 : decode cX10_wouldBeLawful 100 = .ok (.goto 4, 3) := by decide +kernel
theorem dX10_wouldBeLawful_103 : decode cX10_wouldBeLawful 103 = .ok (.iconst 0, 1) := by decide +kernel
theorem dX10_wouldBeLawful_104 : decode cX10_wouldBeLawful 104 = .ok (.ireturn, 1) := by decide +kernel
theorem dX10_isLawful_0 : decode cX10_isLawful 0 = .ok (.aload_n 0, 1) := by decide +kernel
theorem dX10_isLawful_1 : decode cX10_isLawful 1 = .ok (.iload_n 1, 1) := by decide +kernel
theorem dX10_isLawful_2 : decode cX10_isLawful 2 = .ok (.invokevirtual 96, 3) := by decide +kernel
theorem dX10_isLawful_5 : decode cX10_isLawful 5 = .ok (.ifCond .eq 33, 3) := by decide +kernel
theorem dX10_isLawful_8 : decode cX10_isLawful 8 = .ok (.aload_n 0, 1) := by decide +kernel
theorem dX10_isLawful_9 : decode cX10_isLawful 9 = .ok (.iload_n 1, 1) := by decide +kernel
theorem dX10_isLawful_10 : decode cX10_isLawful 10 = .ok (.aload_n 0, 1) := by decide +kernel
theorem dX10_isLawful_11 : decode cX10_isLawful 11 = .ok (.getfield 55, 3) := by decide +kernel
theorem dX10_isLawful_14 : decode cX10_isLawful 14 = .ok (.iconst 2, 1) := by decide +kernel
theorem dX10_isLawful_15 : decode cX10_isLawful 15 = .ok (.iload_n 1, 1) := by decide +kernel
theorem dX10_isLawful_16 : decode cX10_isLawful 16 = .ok (.imul, 1) := by decide +kernel
theorem dX10_isLawful_17 : decode cX10_isLawful 17 = .ok (.iaload, 1) := by decide +kernel
theorem dX10_isLawful_18 : decode cX10_isLawful 18 = .ok (.aload_n 0, 1) := by decide +kernel
theorem dX10_isLawful_19 : decode cX10_isLawful 19 = .ok (.getfield 55, 3) := by decide +kernel
theorem dX10_isLawful_22 : decode cX10_isLawful 22 = .ok (.iconst 2, 1) := by decide +kernel
theorem dX10_isLawful_23 : decode cX10_isLawful 23 = .ok (.iload_n 1, 1) := by decide +kernel
theorem dX10_isLawful_24 : decode cX10_isLawful 24 = .ok (.imul, 1) := by decide +kernel
theorem dX10_isLawful_25 : decode cX10_isLawful 25 = .ok (.iconst 1, 1) := by decide +kernel
theorem dX10_isLawful_26 : decode cX10_isLawful 26 = .ok (.iadd, 1) := by decide +kernel
theorem dX10_isLawful_27 : decode cX10_isLawful 27 = .ok (.iaload, 1) := by decide +kernel
theorem dX10_isLawful_28 : decode cX10_isLawful 28 = .ok (.invokevirtual 164, 3) := by decide +kernel
theorem dX10_isLawful_31 : decode cX10_isLawful 31 = .ok (.ifCond .eq 7, 3) := by decide +kernel
theorem dX10_isLawful_34 : decode cX10_isLawful 34 = .ok (.iconst 1, 1) := by decide +kernel
theorem dX10_isLawful_35 : decode cX10_isLawful 35 = .ok (.goto 4, 3) := by decide +kernel
theorem dX10_isLawful_38 : decode cX10_isLawful 38 = .ok (.iconst 0, 1) := by decide +kernel
theorem dX10_isLawful_39 : decode cX10_isLawful 39 = .ok (.ireturn, 1) := by decide +kernel
theorem dX10_howManyUnlawful_0 : decode cX10_howManyUnlawful 0 = .ok (.iconst 0, 1) := by decide +kernel
theorem dX10_howManyUnlawful_1 : decode cX10_howManyUnlawful 1 = .ok (.istore_n 1, 1) := by decide +kernel
theorem dX10_howManyUnlawful_2 : decode cX10_howManyUnlawful 2 = .ok (.iconst 0, 1) := by decide +kernel
theorem dX10_howManyUnlawful_3 : decode cX10_howManyUnlawful 3 = .ok (.istore_n 2, 1) := by decide +kernel
theorem dX10_howManyUnlawful_4 : decode cX10_howManyUnlawful 4 = .ok (.iload_n 2, 1) := by decide +kernel
theorem dX10_howManyUnlawful_5 : decode cX10_howManyUnlawful 5 = .ok (.aload_n 0, 1) := by decide +kernel
theorem dX10_howManyUnlawful_6 : decode cX10_howManyUnlawful 6 = .ok (.getfield 15, 3) := by decide +kernel
theorem dX10_howManyUnlawful_9 : decode cX10_howManyUnlawful 9 = .ok (.if_icmp .ge 20, 3) := by decide +kernel
theorem dX10_howManyUnlawful_12 : decode cX10_howManyUnlawful 12 = .ok (.aload_n 0, 1) := by decide +kernel
theorem dX10_howManyUnlawful_13 : decode cX10_howManyUnlawful 13 = .ok (.iload_n 2, 1) := by decide +kernel
theorem dX10_howManyUnlawful_14 : decode cX10_howManyUnlawful 14 = .ok (.invokevirtual 167, 3) := by decide +kernel
theorem dX10_howManyUnlawful_17 : decode cX10_howManyUnlawful 17 = .ok (.ifCond .ne 6, 3) := by decide +kernel
theorem dX10_howManyUnlawful_20 : decode cX10_howManyUnlawful 20 = .ok (.iinc 1 1, 3) := by decide +kernel
theorem dX10_howManyUnlawful_23 : decode cX10_howManyUnlawful 23 = .ok (.iinc 2 1, 3) := by decide +kernel
theorem dX10_howManyUnlawful_26 : decode cX10_howManyUnlawful 26 = .ok (.goto (-22), 3) := by decide +kernel
theorem dX10_howManyUnlawful_29 : decode cX10_howManyUnlawful 29 = .ok (.iload_n 1, 1) := by decide +kernel
theorem dX10_howManyUnlawful_30 : decode cX10_howManyUnlawful 30 = .ok (.ireturn, 1) := by decide +kernel
theorem dX10_firstUnlawful_0 : decode cX10_firstUnlawful 0 = .ok (.iconst 0, 1) := by decide +kernel
theorem dX10_firstUnlawful_1 : decode cX10_firstUnlawful 1 = .ok (.istore_n 1, 1) := by decide +kernel
theorem dX10_firstUnlawful_2 : decode cX10_firstUnlawful 2 = .ok (.iload_n 1, 1) := by decide +kernel
theorem dX10_firstUnlawful_3 : decode cX10_firstUnlawful 3 = .ok (.aload_n 0, 1) := by decide +kernel
theorem dX10_firstUnlawful_4 : decode cX10_firstUnlawful 4 = .ok (.getfield 15, 3) := by decide +kernel
theorem dX10_firstUnlawful_7 : decode cX10_firstUnlawful 7 = .ok (.if_icmp .ge 19, 3) := by decide +kernel
theorem dX10_firstUnlawful_10 : decode cX10_firstUnlawful 10 = .ok (.aload_n 0, 1) := by decide +kernel
theorem dX10_firstUnlawful_11 : decode cX10_firstUnlawful 11 = .ok (.iload_n 1, 1) := by decide +kernel
theorem dX10_firstUnlawful_12 : decode cX10_firstUnlawful 12 = .ok (.invokevirtual 167, 3) := by decide +kernel
theorem dX10_firstUnlawful_15 : decode cX10_firstUnlawful 15 = .ok (.ifCond .ne 5, 3) := by decide +kernel
theorem dX10_firstUnlawful_18 : decode cX10_firstUnlawful 18 = .ok (.iload_n 1, 1) := by decide +kernel
theorem dX10_firstUnlawful_19 : decode cX10_firstUnlawful 19 = .ok (.ireturn, 1) := by decide +kernel
theorem dX10_firstUnlawful_20 : decode cX10_firstUnlawful 20 = .ok (.iinc 1 1, 3) := by decide +kernel
theorem dX10_firstUnlawful_23 : decode cX10_firstUnlawful 23 = .ok (.goto (-21), 3) := by decide +kernel
theorem dX10_firstUnlawful_26 : decode cX10_firstUnlawful 26 = .ok (.ldc 90, 2) := by decide +kernel
theorem dX10_firstUnlawful_28 : decode cX10_firstUnlawful 28 = .ok (.ireturn, 1) := by decide +kernel
theorem dX10_bestPair_0 : decode cX10_bestPair 0 = .ok (.ldc 90, 2) := by decide +kernel
theorem dX10_bestPair_2 : decode cX10_bestPair 2 = .ok (.istore_n 2, 1) := by decide +kernel
theorem dX10_bestPair_3 : decode cX10_bestPair 3 = .ok (.iconst 0, 1) := by decide +kernel
theorem dX10_bestPair_4 : decode cX10_bestPair 4 = .ok (.istore_n 3, 1) := by decide +kernel
theorem dX10_bestPair_5 : decode cX10_bestPair 5 = .ok (.iconst 0, 1) := by decide +kernel
theorem dX10_bestPair_6 : decode cX10_bestPair 6 = .ok (.istore 4, 2) := by decide +kernel
theorem dX10_bestPair_8 : decode cX10_bestPair 8 = .ok (.iload 4, 2) := by decide +kernel
theorem dX10_bestPair_10 : decode cX10_bestPair 10 = .ok (.aload_n 0, 1) := by decide +kernel
theorem dX10_bestPair_11 : decode cX10_bestPair 11 = .ok (.getfield 9, 3) := by decide +kernel
theorem dX10_bestPair_14 : decode cX10_bestPair 14 = .ok (.if_icmp .ge 83, 3) := by decide +kernel
theorem dX10_bestPair_17 : decode cX10_bestPair 17 = .ok (.iload 4, 2) := by decide +kernel
theorem dX10_bestPair_19 : decode cX10_bestPair 19 = .ok (.iconst 1, 1) := by decide +kernel
theorem dX10_bestPair_20 : decode cX10_bestPair 20 = .ok (.iadd, 1) := by decide +kernel
theorem dX10_bestPair_21 : decode cX10_bestPair 21 = .ok (.istore 5, 2) := by decide +kernel
theorem dX10_bestPair_23 : decode cX10_bestPair 23 = .ok (.iload 5, 2) := by decide +kernel
theorem dX10_bestPair_25 : decode cX10_bestPair 25 = .ok (.aload_n 0, 1) := by decide +kernel
theorem dX10_bestPair_26 : decode cX10_bestPair 26 = .ok (.getfield 9, 3) := by decide +kernel
theorem dX10_bestPair_29 : decode cX10_bestPair 29 = .ok (.if_icmp .ge 62, 3) := by decide +kernel
theorem dX10_bestPair_32 : decode cX10_bestPair 32 = .ok (.aload_n 0, 1) := by decide +kernel
theorem dX10_bestPair_33 : decode cX10_bestPair 33 = .ok (.iload 4, 2) := by decide +kernel
theorem dX10_bestPair_35 : decode cX10_bestPair 35 = .ok (.iload_n 1, 1) := by decide +kernel
theorem dX10_bestPair_36 : decode cX10_bestPair 36 = .ok (.invokevirtual 110, 3) := by decide +kernel
theorem dX10_bestPair_39 : decode cX10_bestPair 39 = .ok (.aload_n 0, 1) := by decide +kernel
theorem dX10_bestPair_40 : decode cX10_bestPair 40 = .ok (.iload 5, 2) := by decide +kernel
theorem dX10_bestPair_42 : decode cX10_bestPair 42 = .ok (.iload_n 1, 1) := by decide +kernel
theorem dX10_bestPair_43 : decode cX10_bestPair 43 = .ok (.invokevirtual 110, 3) := by decide +kernel
theorem dX10_bestPair_46 : decode cX10_bestPair 46 = .ok (.iadd, 1) := by decide +kernel
theorem dX10_bestPair_47 : decode cX10_bestPair 47 = .ok (.istore 6, 2) := by decide +kernel
theorem dX10_bestPair_49 : decode cX10_bestPair 49 = .ok (.iload_n 2, 1) := by decide +kernel
theorem dX10_bestPair_50 : decode cX10_bestPair 50 = .ok (.ldc 90, 2) := by decide +kernel
theorem dX10_bestPair_52 : decode cX10_bestPair 52 = .ok (.if_icmp .eq 9, 3) := by decide +kernel
theorem dX10_bestPair_55 : decode cX10_bestPair 55 = .ok (.iload 6, 2) := by decide +kernel
theorem dX10_bestPair_57 : decode cX10_bestPair 57 = .ok (.iload_n 3, 1) := by decide +kernel
theorem dX10_bestPair_58 : decode cX10_bestPair 58 = .ok (.if_icmp .ge 27, 3) := by decide +kernel
theorem dX10_bestPair_61 : decode cX10_bestPair 61 = .ok (.aload_n 0, 1) := by decide +kernel
theorem dX10_bestPair_62 : decode cX10_bestPair 62 = .ok (.iload_n 1, 1) := by decide +kernel
theorem dX10_bestPair_63 : decode cX10_bestPair 63 = .ok (.iload 4, 2) := by decide +kernel
theorem dX10_bestPair_65 : decode cX10_bestPair 65 = .ok (.iload 5, 2) := by decide +kernel
theorem dX10_bestPair_67 : decode cX10_bestPair 67 = .ok (.invokevirtual 164, 3) := by decide +kernel
theorem dX10_bestPair_70 : decode cX10_bestPair 70 = .ok (.ifCond .eq 15, 3) := by decide +kernel
theorem dX10_bestPair_73 : decode cX10_bestPair 73 = .ok (.bipush 100, 2) := by decide +kernel
theorem dX10_bestPair_75 : decode cX10_bestPair 75 = .ok (.iload 4, 2) := by decide +kernel
theorem dX10_bestPair_77 : decode cX10_bestPair 77 = .ok (.imul, 1) := by decide +kernel
theorem dX10_bestPair_78 : decode cX10_bestPair 78 = .ok (.iload 5, 2) := by decide +kernel
theorem dX10_bestPair_80 : decode cX10_bestPair 80 = .ok (.iadd, 1) := by decide +kernel
theorem dX10_bestPair_81 : decode cX10_bestPair 81 = .ok (.istore_n 2, 1) := by decide +kernel
theorem dX10_bestPair_82 : decode cX10_bestPair 82 = .ok (.iload 6, 2) := by decide +kernel
theorem dX10_bestPair_84 : decode cX10_bestPair 84 = .ok (.istore_n 3, 1) := by decide +kernel
theorem dX10_bestPair_85 : decode cX10_bestPair 85 = .ok (.iinc 5 1, 3) := by decide +kernel
theorem dX10_bestPair_88 : decode cX10_bestPair 88 = .ok (.goto (-65), 3) := by decide +kernel
theorem dX10_bestPair_91 : decode cX10_bestPair 91 = .ok (.iinc 4 1, 3) := by decide +kernel
theorem dX10_bestPair_94 : decode cX10_bestPair 94 = .ok (.goto (-86), 3) := by decide +kernel
theorem dX10_bestPair_97 : decode cX10_bestPair 97 = .ok (.iload_n 2, 1) := by decide +kernel
theorem dX10_bestPair_98 : decode cX10_bestPair 98 = .ok (.ireturn, 1) := by decide +kernel
theorem dX11_init_0 : decode cX11_init 0 = .ok (.aload_n 0, 1) := by decide +kernel
theorem dX11_init_1 : decode cX11_init 1 = .ok (.invokespecial 1, 3) := by decide +kernel
theorem dX11_init_4 : decode cX11_init 4 = .ok (.aload_n 0, 1) := by decide +kernel
theorem dX11_init_5 : decode cX11_init 5 = .ok (.new 7, 3) := by decide +kernel
theorem dX11_init_8 : decode cX11_init 8 = .ok (.dup, 1) := by decide +kernel
theorem dX11_init_9 : decode cX11_init 9 = .ok (.invokespecial 9, 3) := by decide +kernel
theorem dX11_init_12 : decode cX11_init 12 = .ok (.putfield 10, 3) := by decide +kernel
theorem dX11_init_15 : decode cX11_init 15 = .ok (.aload_n 0, 1) := by decide +kernel
theorem dX11_init_16 : decode cX11_init 16 = .ok (.new 7, 3) := by decide +kernel
theorem dX11_init_19 : decode cX11_init 19 = .ok (.dup, 1) := by decide +kernel
theorem dX11_init_20 : decode cX11_init 20 = .ok (.invokespecial 9, 3) := by decide +kernel
theorem dX11_init_23 : decode cX11_init 23 = .ok (.putfield 16, 3) := by decide +kernel
theorem dX11_init_26 : decode cX11_init 26 = .ok (.aload_n 0, 1) := by decide +kernel
theorem dX11_init_27 : decode cX11_init 27 = .ok (.iconst 0, 1) := by decide +kernel
theorem dX11_init_28 : decode cX11_init 28 = .ok (.putfield 19, 3) := by decide +kernel
theorem dX11_init_31 : decode cX11_init 31 = .ok (.aload_n 0, 1) := by decide +kernel
theorem dX11_init_32 : decode cX11_init 32 = .ok (.new 23, 3) := by decide +kernel
theorem dX11_init_35 : decode cX11_init 35 = .ok (.dup, 1) := by decide +kernel
theorem dX11_init_36 : decode cX11_init 36 = .ok (.invokespecial 25, 3) := by decide +kernel
theorem dX11_init_39 : decode cX11_init 39 = .ok (.putfield 26, 3) := by decide +kernel
theorem dX11_init_42 : decode cX11_init 42 = .ok (.aload_n 0, 1) := by decide +kernel
theorem dX11_init_43 : decode cX11_init 43 = .ok (.bipush 60, 2) := by decide +kernel
theorem dX11_init_45 : decode cX11_init 45 = .ok (.newarray .int, 2) := by decide +kernel
theorem dX11_init_47 : decode cX11_init 47 = .ok (.putfield 30, 3) := by decide +kernel
theorem dX11_init_50 : decode cX11_init 50 = .ok (.aload_n 0, 1) := by decide +kernel
theorem dX11_init_51 : decode cX11_init 51 = .ok (.iconst 0, 1) := by decide +kernel
theorem dX11_init_52 : decode cX11_init 52 = .ok (.putfield 34, 3) := by decide +kernel
theorem dX11_init_55 : decode cX11_init 55 = .ok (.aload_n 0, 1) := by decide +kernel
theorem dX11_init_56 : decode cX11_init 56 = .ok (.iconst 4, 1) := by decide +kernel
theorem dX11_init_57 : decode cX11_init 57 = .ok (.anewarray 38, 3) := by decide +kernel
theorem dX11_init_60 : decode cX11_init 60 = .ok (.putfield 40, 3) := by decide +kernel
theorem dX11_init_63 : decode cX11_init 63 = .ok (.aload_n 0, 1) := by decide +kernel
theorem dX11_init_64 : decode cX11_init 64 = .ok (.iconst 5, 1) := by decide +kernel
theorem dX11_init_65 : decode cX11_init 65 = .ok (.anewarray 44, 3) := by decide +kernel
theorem dX11_init_68 : decode cX11_init 68 = .ok (.putfield 46, 3) := by decide +kernel
theorem dX11_init_71 : decode cX11_init 71 = .ok (.aload_n 0, 1) := by decide +kernel
theorem dX11_init_72 : decode cX11_init 72 = .ok (.bipush 12, 2) := by decide +kernel
theorem dX11_init_74 : decode cX11_init 74 = .ok (.newarray .int, 2) := by decide +kernel
theorem dX11_init_76 : decode cX11_init 76 = .ok (.putfield 50, 3) := by decide +kernel
theorem dX11_init_79 : decode cX11_init 79 = .ok (.iconst 0, 1) := by decide +kernel
theorem dX11_init_80 : decode cX11_init 80 = .ok (.istore_n 1, 1) := by decide +kernel
theorem dX11_init_81 : decode cX11_init 81 = .ok (.iload_n 1, 1) := by decide +kernel
theorem dX11_init_82 : decode cX11_init 82 = .ok (.iconst 4, 1) := by decide +kernel
theorem dX11_init_83 : decode cX11_init 83 = .ok (.if_icmp .ge 22, 3) := by decide +kernel
theorem dX11_init_86 : decode cX11_init 86 = .ok (.aload_n 0, 1) := by decide +kernel
theorem dX11_init_87 : decode cX11_init 87 = .ok (.getfield 40, 3) := by decide +kernel
theorem dX11_init_90 : decode cX11_init 90 = .ok (.iload_n 1, 1) := by decide +kernel
theorem dX11_init_91 : decode cX11_init 91 = .ok (.new 38, 3) := by decide +kernel
theorem dX11_init_94 : decode cX11_init 94 = .ok (.dup, 1) := by decide +kernel
theorem dX11_init_95 : decode cX11_init 95 = .ok (.invokespecial 53, 3) := by decide +kernel
theorem dX11_init_98 : decode cX11_init 98 = .ok (.aastore, 1) := by decide +kernel
theorem dX11_init_99 : decode cX11_init 99 = .ok (.iinc 1 1, 3) := by decide +kernel
theorem dX11_init_102 : decode cX11_init 102 = .ok (.goto (-21), 3) := by decide +kernel
theorem dX11_init_105 : decode cX11_init 105 = .ok (.iconst 0, 1) := by decide +kernel
theorem dX11_init_106 : decode cX11_init 106 = .ok (.istore_n 1, 1) := by decide +kernel
theorem dX11_init_107 : decode cX11_init 107 = .ok (.iload_n 1, 1) := by decide +kernel
theorem dX11_init_108 : decode cX11_init 108 = .ok (.iconst 5, 1) := by decide +kernel
theorem dX11_init_109 : decode cX11_init 109 = .ok (.if_icmp .ge 22, 3) := by decide +kernel
theorem dX11_init_112 : decode cX11_init 112 = .ok (.aload_n 0, 1) := by decide +kernel
theorem dX11_init_113 : decode cX11_init 113 = .ok (.getfield 46, 3) := by decide +kernel
theorem dX11_init_116 : decode cX11_init 116 = .ok (.iload_n 1, 1) := by decide +kernel
theorem dX11_init_117 : decode cX11_init 117 = .ok (.new 44, 3) := by decide +kernel
theorem dX11_init_120 : decode cX11_init 120 = .ok (.dup, 1) := by decide +kernel
theorem dX11_init_121 : decode cX11_init 121 = .ok (.invokespecial 54, 3) := by decide +kernel
theorem dX11_init_124 : decode cX11_init 124 = .ok (.aastore, 1) := by decide +kernel
theorem dX11_init_125 : decode cX11_init 125 = .ok (.iinc 1 1, 3) := by decide +kernel
theorem dX11_init_128 : decode cX11_init 128 = .ok (.goto (-21), 3) := by decide +kernel
theorem dX11_init_131 : decode cX11_init 131 = .ok (.return_, 1) := by decide +kernel
theorem dX11_house_0 : decode cX11_house 0 = .ok (.iload_n 1, 1) := by decide +kernel
theorem dX11_house_1 : decode cX11_house 1 = .ok (.iconst 0, 1) := by decide +kernel
theorem dX11_house_2 : decode cX11_house 2 = .ok (.bipush 100, 2) := by decide +kernel
theorem dX11_house_4 : decode cX11_house 4 = .ok (.invokestatic 55, 3) := by decide +kernel
theorem dX11_house_7 : decode cX11_house 7 = .ok (.ifCond .eq 13, 3) := by decide +kernel
theorem dX11_house_10 : decode cX11_house 10 = .ok (.iload_n 2, 1) := by decide +kernel
theorem dX11_house_11 : decode cX11_house 11 = .ok (.iconst 0, 1) := by decide +kernel
theorem dX11_house_12 : decode cX11_house 12 = .ok (.bipush 100, 2) := by decide +kernel
theorem dX11_house_14 : decode cX11_house 14 = .ok (.invokestatic 55, 3) := by decide +kernel
theorem dX11_house_17 : decode cX11_house 17 = .ok (.ifCond .ne 6, 3) := by decide +kernel
theorem dX11_house_20 : decode cX11_house 20 = .ok (.ldc 59, 2) := by decide +kernel
theorem dX11_house_22 : decode cX11_house 22 = .ok (.ireturn, 1) := by decide +kernel
theorem dX11_house_23 : decode cX11_house 23 = .ok (.aload_n 0, 1) := by decide +kernel
theorem dX11_house_24 : decode cX11_house 24 = .ok (.getfield 10, 3) := by decide +kernel
theorem dX11_house_27 : decode cX11_house 27 = .ok (.iload_n 1, 1) := by decide +kernel
theorem dX11_house_28 : decode cX11_house 28 = .ok (.iload_n 2, 1) := by decide +kernel
theorem dX11_house_29 : decode cX11_house 29 = .ok (.invokevirtual 60, 3) := by decide +kernel
theorem dX11_house_32 : decode cX11_house 32 = .ok (.ireturn, 1) := by decide +kernel
theorem dX11_houseTold_0 : decode cX11_houseTold 0 = .ok (.aload_n 0, 1) := by decide +kernel
theorem dX11_houseTold_1 : decode cX11_houseTold 1 = .ok (.getfield 10, 3) := by decide +kernel
theorem dX11_houseTold_4 : decode cX11_houseTold 4 = .ok (.iload_n 1, 1) := by decide +kernel
theorem dX11_houseTold_5 : decode cX11_houseTold 5 = .ok (.invokevirtual 64, 3) := by decide +kernel
theorem dX11_houseTold_8 : decode cX11_houseTold 8 = .ok (.ifCond .ne 6, 3) := by decide +kernel
theorem dX11_houseTold_11 : decode cX11_houseTold 11 = .ok (.ldc 59, 2) := by decide +kernel
theorem dX11_houseTold_13 : decode cX11_houseTold 13 = .ok (.ireturn, 1) := by decide +kernel
theorem dX11_houseTold_14 : decode cX11_houseTold 14 = .ok (.iload_n 2, 1) := by decide +kernel
theorem dX11_houseTold_15 : decode cX11_houseTold 15 = .ok (.tableswitch 96 0 5 #[37, 47, 57, 68, 77, 86], 37) := by decide +kernel
theorem dX11_houseTold_52 : decode cX11_houseTold 52 = .ok (.aload_n 0, 1) := by decide +kernel
theorem dX11_houseTold_53 : decode cX11_houseTold 53 = .ok (.getfield 10, 3) := by decide +kernel
theorem dX11_houseTold_56 : decode cX11_houseTold 56 = .ok (.getfield 68, 3) := by decide +kernel
theorem dX11_houseTold_59 : decode cX11_houseTold 59 = .ok (.iload_n 1, 1) := by decide +kernel
theorem dX11_houseTold_60 : decode cX11_houseTold 60 = .ok (.iaload, 1) := by decide +kernel
theorem dX11_houseTold_61 : decode cX11_houseTold 61 = .ok (.ireturn, 1) := by decide +kernel
theorem dX11_houseTold_62 : decode cX11_houseTold 62 = .ok (.aload_n 0, 1) := by decide +kernel
theorem dX11_houseTold_63 : decode cX11_houseTold 63 = .ok (.getfield 10, 3) := by decide +kernel
theorem dX11_houseTold_66 : decode cX11_houseTold 66 = .ok (.getfield 71, 3) := by decide +kernel
theorem dX11_houseTold_69 : decode cX11_houseTold 69 = .ok (.iload_n 1, 1) := by decide +kernel
theorem dX11_houseTold_70 : decode cX11_houseTold 70 = .ok (.iaload, 1) := by decide +kernel
theorem dX11_houseTold_71 : decode cX11_houseTold 71 = .ok (.ireturn, 1) := by decide +kernel
theorem dX11_houseTold_72 : decode cX11_houseTold 72 = .ok (.aload_n 0, 1) := by decide +kernel
theorem dX11_houseTold_73 : decode cX11_houseTold 73 = .ok (.getfield 10, 3) := by decide +kernel
theorem dX11_houseTold_76 : decode cX11_houseTold 76 = .ok (.iload_n 1, 1) := by decide +kernel
theorem dX11_houseTold_77 : decode cX11_houseTold 77 = .ok (.ldc 74, 2) := by decide +kernel
theorem dX11_houseTold_79 : decode cX11_houseTold 79 = .ok (.invokevirtual 75, 3) := by decide +kernel
theorem dX11_houseTold_82 : decode cX11_houseTold 82 = .ok (.ireturn, 1) := by decide +kernel
theorem dX11_houseTold_83 : decode cX11_houseTold 83 = .ok (.aload_n 0, 1) := by decide +kernel
theorem dX11_houseTold_84 : decode cX11_houseTold 84 = .ok (.getfield 10, 3) := by decide +kernel
theorem dX11_houseTold_87 : decode cX11_houseTold 87 = .ok (.iload_n 1, 1) := by decide +kernel
theorem dX11_houseTold_88 : decode cX11_houseTold 88 = .ok (.invokevirtual 78, 3) := by decide +kernel
theorem dX11_houseTold_91 : decode cX11_houseTold 91 = .ok (.ireturn, 1) := by decide +kernel
theorem dX11_houseTold_92 : decode cX11_houseTold 92 = .ok (.aload_n 0, 1) := by decide +kernel
theorem dX11_houseTold_93 : decode cX11_houseTold 93 = .ok (.getfield 10, 3) := by decide +kernel
theorem dX11_houseTold_96 : decode cX11_houseTold 96 = .ok (.iload_n 1, 1) := by decide +kernel
theorem dX11_houseTold_97 : decode cX11_houseTold 97 = .ok (.invokevirtual 82, 3) := by decide +kernel
theorem dX11_houseTold_100 : decode cX11_houseTold 100 = .ok (.ireturn, 1) := by decide +kernel
theorem dX11_houseTold_101 : decode cX11_houseTold 101 = .ok (.aload_n 0, 1) := by decide +kernel
theorem dX11_houseTold_102 : decode cX11_houseTold 102 = .ok (.getfield 10, 3) := by decide +kernel
theorem dX11_houseTold_105 : decode cX11_houseTold 105 = .ok (.getfield 85, 3) := by decide +kernel
theorem dX11_houseTold_108 : decode cX11_houseTold 108 = .ok (.iload_n 1, 1) := by decide +kernel
theorem dX11_houseTold_109 : decode cX11_houseTold 109 = .ok (.iaload, 1) := by decide +kernel
theorem dX11_houseTold_110 : decode cX11_houseTold 110 = .ok (.ireturn, 1) := by decide +kernel
theorem dX11_houseTold_111 : decode cX11_houseTold 111 = .ok (.ldc 59, 2) := by decide +kernel
theorem dX11_houseTold_113 : decode cX11_houseTold 113 = .ok (.ireturn, 1) := by decide +kernel
theorem dX11_change_0 : decode cX11_change 0 = .ok (.aload_n 0, 1) := by decide +kernel
theorem dX11_change_1 : decode cX11_change 1 = .ok (.getfield 10, 3) := by decide +kernel
theorem dX11_change_4 : decode cX11_change 4 = .ok (.iload_n 1, 1) := by decide +kernel
theorem dX11_change_5 : decode cX11_change 5 = .ok (.invokevirtual 64, 3) := by decide +kernel
theorem dX11_change_8 : decode cX11_change 8 = .ok (.ifCond .eq 22, 3) := by decide +kernel
theorem dX11_change_11 : decode cX11_change 11 = .ok (.iload_n 2, 1) := by decide +kernel
theorem dX11_change_12 : decode cX11_change 12 = .ok (.iconst 0, 1) := by decide +kernel
theorem dX11_change_13 : decode cX11_change 13 = .ok (.iconst 1, 1) := by decide +kernel
theorem dX11_change_14 : decode cX11_change 14 = .ok (.invokestatic 55, 3) := by decide +kernel
theorem dX11_change_17 : decode cX11_change 17 = .ok (.ifCond .eq 13, 3) := by decide +kernel
