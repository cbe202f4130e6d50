theorem dX0_init_0 : decode cX0_init 0 = .ok (.aload_n 0, 1) := by decide +kernel
theorem dX0_init_1 : decode cX0_init 1 = .ok (.invokespecial 3, 3) := by decide +kernel
theorem dX0_init_4 : decode cX0_init 4 = .ok (.aload_n 0, 1) := by decide +kernel
theorem dX0_init_5 : decode cX0_init 5 = .ok (.iconst (-1), 1) := by decide +kernel
theorem dX0_init_6 : decode cX0_init 6 = .ok (.putfield 9, 3) := by decide +kernel
theorem dX0_init_9 : decode cX0_init 9 = .ok (.aload_n 0, 1) := by decide +kernel
theorem dX0_init_10 : decode cX0_init 10 = .ok (.iload_n 1, 1) := by decide +kernel
theorem dX0_init_11 : decode cX0_init 11 = .ok (.putfield 15, 3) := by decide +kernel
theorem dX0_init_14 : decode cX0_init 14 = .ok (.aload_n 0, 1) := by decide +kernel
theorem dX0_init_15 : decode cX0_init 15 = .ok (.iload_n 2, 1) := by decide +kernel
theorem dX0_init_16 : decode cX0_init 16 = .ok (.putfield 18, 3) := by decide +kernel
theorem dX0_init_19 : decode cX0_init 19 = .ok (.aload_n 0, 1) := by decide +kernel
theorem dX0_init_20 : decode cX0_init 20 = .ok (.iload_n 3, 1) := by decide +kernel
theorem dX0_init_21 : decode cX0_init 21 = .ok (.putfield 21, 3) := by decide +kernel
theorem dX0_init_24 : decode cX0_init 24 = .ok (.aload_n 0, 1) := by decide +kernel
theorem dX0_init_25 : decode cX0_init 25 = .ok (.iload 4, 2) := by decide +kernel
theorem dX0_init_27 : decode cX0_init 27 = .ok (.putfield 24, 3) := by decide +kernel
theorem dX0_init_30 : decode cX0_init 30 = .ok (.return_, 1) := by decide +kernel
theorem dX0_hasLegFrom_0 : decode cX0_hasLegFrom 0 = .ok (.aload_n 0, 1) := by decide +kernel
theorem dX0_hasLegFrom_1 : decode cX0_hasLegFrom 1 = .ok (.getfield 27, 3) := by decide +kernel
theorem dX0_hasLegFrom_4 : decode cX0_hasLegFrom 4 = .ok (.iconst 1, 1) := by decide +kernel
theorem dX0_hasLegFrom_5 : decode cX0_hasLegFrom 5 = .ok (.iload_n 1, 1) := by decide +kernel
theorem dX0_hasLegFrom_6 : decode cX0_hasLegFrom 6 = .ok (.ishl, 1) := by decide +kernel
theorem dX0_hasLegFrom_7 : decode cX0_hasLegFrom 7 = .ok (.iand, 1) := by decide +kernel
theorem dX0_hasLegFrom_8 : decode cX0_hasLegFrom 8 = .ok (.ifCond .eq 7, 3) := by decide +kernel
theorem dX0_hasLegFrom_11 : decode cX0_hasLegFrom 11 = .ok (.iconst 1, 1) := by decide +kernel
theorem dX0_hasLegFrom_12 : decode cX0_hasLegFrom 12 = .ok (.goto 4, 3) := by decide +kernel
theorem dX0_hasLegFrom_15 : decode cX0_hasLegFrom 15 = .ok (.iconst 0, 1) := by decide +kernel
theorem dX0_hasLegFrom_16 : decode cX0_hasLegFrom 16 = .ok (.ireturn, 1) := by decide +kernel
theorem dX0_beganWithin_0 : decode cX0_beganWithin 0 = .ok (.iload_n 2, 1) := by decide +kernel
theorem dX0_beganWithin_1 : decode cX0_beganWithin 1 = .ok (.aload_n 0, 1) := by decide +kernel
theorem dX0_beganWithin_2 : decode cX0_beganWithin 2 = .ok (.getfield 21, 3) := by decide +kernel
theorem dX0_beganWithin_5 : decode cX0_beganWithin 5 = .ok (.isub, 1) := by decide +kernel
theorem dX0_beganWithin_6 : decode cX0_beganWithin 6 = .ok (.invokestatic 30, 3) := by decide +kernel
theorem dX0_beganWithin_9 : decode cX0_beganWithin 9 = .ok (.iload_n 1, 1) := by decide +kernel
theorem dX0_beganWithin_10 : decode cX0_beganWithin 10 = .ok (.if_icmp .gt 20, 3) := by decide +kernel
theorem dX0_beganWithin_13 : decode cX0_beganWithin 13 = .ok (.iload_n 3, 1) := by decide +kernel
theorem dX0_beganWithin_14 : decode cX0_beganWithin 14 = .ok (.aload_n 0, 1) := by decide +kernel
theorem dX0_beganWithin_15 : decode cX0_beganWithin 15 = .ok (.getfield 24, 3) := by decide +kernel
theorem dX0_beganWithin_18 : decode cX0_beganWithin 18 = .ok (.isub, 1) := by decide +kernel
theorem dX0_beganWithin_19 : decode cX0_beganWithin 19 = .ok (.invokestatic 30, 3) := by decide +kernel
theorem dX0_beganWithin_22 : decode cX0_beganWithin 22 = .ok (.iload_n 1, 1) := by decide +kernel
theorem dX0_beganWithin_23 : decode cX0_beganWithin 23 = .ok (.if_icmp .gt 7, 3) := by decide +kernel
theorem dX0_beganWithin_26 : decode cX0_beganWithin 26 = .ok (.iconst 1, 1) := by decide +kernel
theorem dX0_beganWithin_27 : decode cX0_beganWithin 27 = .ok (.goto 4, 3) := by decide +kernel
theorem dX0_beganWithin_30 : decode cX0_beganWithin 30 = .ok (.iconst 0, 1) := by decide +kernel
theorem dX0_beganWithin_31 : decode cX0_beganWithin 31 = .ok (.ireturn, 1) := by decide +kernel
theorem dX0_addLeg_0 : decode cX0_addLeg 0 = .ok (.aload_n 0, 1) := by decide +kernel
theorem dX0_addLeg_1 : decode cX0_addLeg 1 = .ok (.dup, 1) := by decide +kernel
theorem dX0_addLeg_2 : decode cX0_addLeg 2 = .ok (.getfield 27, 3) := by decide +kernel
theorem dX0_addLeg_5 : decode cX0_addLeg 5 = .ok (.iconst 1, 1) := by decide +kernel
theorem dX0_addLeg_6 : decode cX0_addLeg 6 = .ok (.iload_n 1, 1) := by decide +kernel
theorem dX0_addLeg_7 : decode cX0_addLeg 7 = .ok (.ishl, 1) := by decide +kernel
theorem dX0_addLeg_8 : decode cX0_addLeg 8 = .ok (.ior, 1) := by decide +kernel
theorem dX0_addLeg_9 : decode cX0_addLeg 9 = .ok (.putfield 27, 3) := by decide +kernel
theorem dX0_addLeg_12 : decode cX0_addLeg 12 = .ok (.aload_n 0, 1) := by decide +kernel
theorem dX0_addLeg_13 : decode cX0_addLeg 13 = .ok (.aload_n 0, 1) := by decide +kernel
theorem dX0_addLeg_14 : decode cX0_addLeg 14 = .ok (.getfield 36, 3) := by decide +kernel
theorem dX0_addLeg_17 : decode cX0_addLeg 17 = .ok (.iload_n 2, 1) := by decide +kernel
theorem dX0_addLeg_18 : decode cX0_addLeg 18 = .ok (.invokestatic 39, 3) := by decide +kernel
theorem dX0_addLeg_21 : decode cX0_addLeg 21 = .ok (.putfield 36, 3) := by decide +kernel
theorem dX0_addLeg_24 : decode cX0_addLeg 24 = .ok (.return_, 1) := by decide +kernel
theorem dX0_day_0 : decode cX0_day 0 = .ok (.aload_n 0, 1) := by decide +kernel
theorem dX0_day_1 : decode cX0_day 1 = .ok (.getfield 21, 3) := by decide +kernel
theorem dX0_day_4 : decode cX0_day 4 = .ok (.sipush 1000, 3) := by decide +kernel
theorem dX0_day_7 : decode cX0_day 7 = .ok (.idiv, 1) := by decide +kernel
theorem dX0_day_8 : decode cX0_day 8 = .ok (.ireturn, 1) := by decide +kernel
theorem dX0_isBooked_0 : decode cX0_isBooked 0 = .ok (.aload_n 0, 1) := by decide +kernel
theorem dX0_isBooked_1 : decode cX0_isBooked 1 = .ok (.getfield 9, 3) := by decide +kernel
theorem dX0_isBooked_4 : decode cX0_isBooked 4 = .ok (.iconst (-1), 1) := by decide +kernel
theorem dX0_isBooked_5 : decode cX0_isBooked 5 = .ok (.if_icmp .eq 7, 3) := by decide +kernel
theorem dX0_isBooked_8 : decode cX0_isBooked 8 = .ok (.iconst 1, 1) := by decide +kernel
theorem dX0_isBooked_9 : decode cX0_isBooked 9 = .ok (.goto 4, 3) := by decide +kernel
theorem dX0_isBooked_12 : decode cX0_isBooked 12 = .ok (.iconst 0, 1) := by decide +kernel
theorem dX0_isBooked_13 : decode cX0_isBooked 13 = .ok (.ireturn, 1) := by decide +kernel
set_option maxRecDepth 20000 in
theorem ggX0_bookedOrZero_X0_isBooked : GoodIn wsX0_bookedOrZero wsX0_isBooked := goodIn_r _ [6, 1, 7, 8, 9, 10, 11, 12, 13, 14] (by decide +kernel) (by decide +kernel)
set_option maxRecDepth 20000 in
theorem gX0_bookedOrZero_X0_isBooked : GoodIn wsX0_bookedOrZero (wsV RX0 43 RX0 yX0_isBooked wsX0_isBooked) := goodIn_app (goodIn_of _ (by decide +kernel)) ggX0_bookedOrZero_X0_isBooked
theorem dX0_bookedOrZero_0 : decode cX0_bookedOrZero 0 = .ok (.aload_n 0, 1) := by decide +kernel
theorem dX0_bookedOrZero_1 : decode cX0_bookedOrZero 1 = .ok (.invokevirtual 43, 3) := by decide +kernel
theorem dX0_bookedOrZero_4 : decode cX0_bookedOrZero 4 = .ok (.ifCond .eq 10, 3) := by decide +kernel
theorem dX0_bookedOrZero_7 : decode cX0_bookedOrZero 7 = .ok (.aload_n 0, 1) := by decide +kernel
theorem dX0_bookedOrZero_8 : decode cX0_bookedOrZero 8 = .ok (.getfield 9, 3) := by decide +kernel
theorem dX0_bookedOrZero_11 : decode cX0_bookedOrZero 11 = .ok (.goto 4, 3) := by decide +kernel
theorem dX0_bookedOrZero_14 : decode cX0_bookedOrZero 14 = .ok (.iconst 0, 1) := by decide +kernel
theorem dX0_bookedOrZero_15 : decode cX0_bookedOrZero 15 = .ok (.ireturn, 1) := by decide +kernel
set_option maxRecDepth 20000 in
theorem ggX0_disputed_X0_bookedOrZero : GoodIn wsX0_disputed wsX0_bookedOrZero := goodIn_r _ [6, 7, 8, 9, 10, 5, 11, 12, 13, 14, 15, 16, 17, 18, 19] (by decide +kernel) (by decide +kernel)
set_option maxRecDepth 20000 in
theorem gX0_disputed_X0_bookedOrZero : GoodIn wsX0_disputed (wsV RX0 50 RX0 yX0_bookedOrZero wsX0_bookedOrZero) := goodIn_app (goodIn_of _ (by decide +kernel)) ggX0_disputed_X0_bookedOrZero
theorem dX0_disputed_0 : decode cX0_disputed 0 = .ok (.aload_n 0, 1) := by decide +kernel
theorem dX0_disputed_1 : decode cX0_disputed 1 = .ok (.getfield 47, 3) := by decide +kernel
theorem dX0_disputed_4 : decode cX0_disputed 4 = .ok (.aload_n 0, 1) := by decide +kernel
theorem dX0_disputed_5 : decode cX0_disputed 5 = .ok (.invokevirtual 50, 3) := by decide +kernel
theorem dX0_disputed_8 : decode cX0_disputed 8 = .ok (.isub, 1) := by decide +kernel
theorem dX0_disputed_9 : decode cX0_disputed 9 = .ok (.ireturn, 1) := by decide +kernel
theorem dX1_init_0 : decode cX1_init 0 = .ok (.aload_n 0, 1) := by decide +kernel
theorem dX1_init_1 : decode cX1_init 1 = .ok (.invokespecial 3, 3) := by decide +kernel
theorem dX1_init_4 : decode cX1_init 4 = .ok (.aload_n 0, 1) := by decide +kernel
theorem dX1_init_5 : decode cX1_init 5 = .ok (.bipush 10, 2) := by decide +kernel
theorem dX1_init_7 : decode cX1_init 7 = .ok (.newarray .int, 2) := by decide +kernel
theorem dX1_init_9 : decode cX1_init 9 = .ok (.putfield 9, 3) := by decide +kernel
theorem dX1_init_12 : decode cX1_init 12 = .ok (.aload_n 0, 1) := by decide +kernel
theorem dX1_init_13 : decode cX1_init 13 = .ok (.bipush 10, 2) := by decide +kernel
theorem dX1_init_15 : decode cX1_init 15 = .ok (.newarray .int, 2) := by decide +kernel
theorem dX1_init_17 : decode cX1_init 17 = .ok (.putfield 15, 3) := by decide +kernel
theorem dX1_init_20 : decode cX1_init 20 = .ok (.return_, 1) := by decide +kernel
set_option maxRecDepth 20000 in
theorem ggX1_hasPlaceFor_X1_placeOf : GoodIn wsX1_hasPlaceFor wsX1_placeOf := goodIn_r _ [5, 6, 7, 8] (by decide +kernel) (by decide +kernel)
set_option maxRecDepth 20000 in
theorem gX1_hasPlaceFor_X1_placeOf : GoodIn wsX1_hasPlaceFor (wsV RX1 18 RX1 yX1_placeOf wsX1_placeOf) := goodIn_app (goodIn_of _ (by decide +kernel)) ggX1_hasPlaceFor_X1_placeOf
theorem dX1_hasPlaceFor_0 : decode cX1_hasPlaceFor 0 = .ok (.aload_n 0, 1) := by decide +kernel
theorem dX1_hasPlaceFor_1 : decode cX1_hasPlaceFor 1 = .ok (.iload_n 1, 1) := by decide +kernel
theorem dX1_hasPlaceFor_2 : decode cX1_hasPlaceFor 2 = .ok (.invokevirtual 18, 3) := by decide +kernel
theorem dX1_hasPlaceFor_5 : decode cX1_hasPlaceFor 5 = .ok (.iconst (-1), 1) := by decide +kernel
theorem dX1_hasPlaceFor_6 : decode cX1_hasPlaceFor 6 = .ok (.if_icmp .ne 12, 3) := by decide +kernel
theorem dX1_hasPlaceFor_9 : decode cX1_hasPlaceFor 9 = .ok (.aload_n 0, 1) := by decide +kernel
theorem dX1_hasPlaceFor_10 : decode cX1_hasPlaceFor 10 = .ok (.iconst 0, 1) := by decide +kernel
theorem dX1_hasPlaceFor_11 : decode cX1_hasPlaceFor 11 = .ok (.invokevirtual 18, 3) := by decide +kernel
theorem dX1_hasPlaceFor_14 : decode cX1_hasPlaceFor 14 = .ok (.iconst (-1), 1) := by decide +kernel
theorem dX1_hasPlaceFor_15 : decode cX1_hasPlaceFor 15 = .ok (.if_icmp .eq 7, 3) := by decide +kernel
theorem dX1_hasPlaceFor_18 : decode cX1_hasPlaceFor 18 = .ok (.iconst 1, 1) := by decide +kernel
theorem dX1_hasPlaceFor_19 : decode cX1_hasPlaceFor 19 = .ok (.goto 4, 3) := by decide +kernel
theorem dX1_hasPlaceFor_22 : decode cX1_hasPlaceFor 22 = .ok (.iconst 0, 1) := by decide +kernel
theorem dX1_hasPlaceFor_23 : decode cX1_hasPlaceFor 23 = .ok (.ireturn, 1) := by decide +kernel
set_option maxRecDepth 20000 in
theorem ggX1_replacePrice_X1_placeOf : GoodIn wsX1_replacePrice wsX1_placeOf := goodIn_r _ [7, 2, 8, 9] (by decide +kernel) (by decide +kernel)
set_option maxRecDepth 20000 in
theorem gX1_replacePrice_X1_placeOf : GoodIn wsX1_replacePrice (wsV RX1 18 RX1 yX1_placeOf wsX1_placeOf) := goodIn_app (goodIn_of _ (by decide +kernel)) ggX1_replacePrice_X1_placeOf
theorem dX1_replacePrice_0 : decode cX1_replacePrice 0 = .ok (.aload_n 0, 1) := by decide +kernel
theorem dX1_replacePrice_1 : decode cX1_replacePrice 1 = .ok (.iload_n 1, 1) := by decide +kernel
theorem dX1_replacePrice_2 : decode cX1_replacePrice 2 = .ok (.invokevirtual 18, 3) := by decide +kernel
theorem dX1_replacePrice_5 : decode cX1_replacePrice 5 = .ok (.istore_n 3, 1) := by decide +kernel
theorem dX1_replacePrice_6 : decode cX1_replacePrice 6 = .ok (.iload_n 3, 1) := by decide +kernel
theorem dX1_replacePrice_7 : decode cX1_replacePrice 7 = .ok (.iconst (-1), 1) := by decide +kernel
theorem dX1_replacePrice_8 : decode cX1_replacePrice 8 = .ok (.if_icmp .ne 7, 3) := by decide +kernel
theorem dX1_replacePrice_11 : decode cX1_replacePrice 11 = .ok (.iconst (-1), 1) := by decide +kernel
theorem dX1_replacePrice_12 : decode cX1_replacePrice 12 = .ok (.goto 9, 3) := by decide +kernel
theorem dX1_replacePrice_15 : decode cX1_replacePrice 15 = .ok (.aload_n 0, 1) := by decide +kernel
theorem dX1_replacePrice_16 : decode cX1_replacePrice 16 = .ok (.getfield 15, 3) := by decide +kernel
theorem dX1_replacePrice_19 : decode cX1_replacePrice 19 = .ok (.iload_n 3, 1) := by decide +kernel
theorem dX1_replacePrice_20 : decode cX1_replacePrice 20 = .ok (.iaload, 1) := by decide +kernel
theorem dX1_replacePrice_21 : decode cX1_replacePrice 21 = .ok (.istore 4, 2) := by decide +kernel
theorem dX1_replacePrice_23 : decode cX1_replacePrice 23 = .ok (.iload_n 3, 1) := by decide +kernel
theorem dX1_replacePrice_24 : decode cX1_replacePrice 24 = .ok (.iconst (-1), 1) := by decide +kernel
theorem dX1_replacePrice_25 : decode cX1_replacePrice 25 = .ok (.if_icmp .ne 9, 3) := by decide +kernel
theorem dX1_replacePrice_28 : decode cX1_replacePrice 28 = .ok (.aload_n 0, 1) := by decide +kernel
theorem dX1_replacePrice_29 : decode cX1_replacePrice 29 = .ok (.iconst 0, 1) := by decide +kernel
theorem dX1_replacePrice_30 : decode cX1_replacePrice 30 = .ok (.invokevirtual 18, 3) := by decide +kernel
theorem dX1_replacePrice_33 : decode cX1_replacePrice 33 = .ok (.istore_n 3, 1) := by decide +kernel
theorem dX1_replacePrice_34 : decode cX1_replacePrice 34 = .ok (.iload_n 3, 1) := by decide +kernel
theorem dX1_replacePrice_35 : decode cX1_replacePrice 35 = .ok (.iconst (-1), 1) := by decide +kernel
theorem dX1_replacePrice_36 : decode cX1_replacePrice 36 = .ok (.if_icmp .eq 26, 3) := by decide +kernel
theorem dX1_replacePrice_39 : decode cX1_replacePrice 39 = .ok (.aload_n 0, 1) := by decide +kernel
theorem dX1_replacePrice_40 : decode cX1_replacePrice 40 = .ok (.getfield 9, 3) := by decide +kernel
theorem dX1_replacePrice_43 : decode cX1_replacePrice 43 = .ok (.iload_n 3, 1) := by decide +kernel
theorem dX1_replacePrice_44 : decode cX1_replacePrice 44 = .ok (.iload_n 2, 1) := by decide +kernel
theorem dX1_replacePrice_45 : decode cX1_replacePrice 45 = .ok (.iconst (-1), 1) := by decide +kernel
theorem dX1_replacePrice_46 : decode cX1_replacePrice 46 = .ok (.if_icmp .ne 7, 3) := by decide +kernel
theorem dX1_replacePrice_49 : decode cX1_replacePrice 49 = .ok (.iconst 0, 1) := by decide +kernel
theorem dX1_replacePrice_50 : decode cX1_replacePrice 50 = .ok (.goto 4, 3) := by decide +kernel
theorem dX1_replacePrice_53 : decode cX1_replacePrice 53 = .ok (.iload_n 1, 1) := by decide +kernel
theorem dX1_replacePrice_54 : decode cX1_replacePrice 54 = .ok (.iastore, 1) := by decide +kernel
theorem dX1_replacePrice_55 : decode cX1_replacePrice 55 = .ok (.aload_n 0, 1) := by decide +kernel
theorem dX1_replacePrice_56 : decode cX1_replacePrice 56 = .ok (.getfield 15, 3) := by decide +kernel
theorem dX1_replacePrice_59 : decode cX1_replacePrice 59 = .ok (.iload_n 3, 1) := by decide +kernel
theorem dX1_replacePrice_60 : decode cX1_replacePrice 60 = .ok (.iload_n 2, 1) := by decide +kernel
theorem dX1_replacePrice_61 : decode cX1_replacePrice 61 = .ok (.iastore, 1) := by decide +kernel
theorem dX1_replacePrice_62 : decode cX1_replacePrice 62 = .ok (.iload 4, 2) := by decide +kernel
theorem dX1_replacePrice_64 : decode cX1_replacePrice 64 = .ok (.ireturn, 1) := by decide +kernel
set_option maxRecDepth 20000 in
theorem ggX1_priceFor_X4_fits : GoodIn wsX1_priceFor wsX4_fits := goodIn_r _ [5] (by decide +kernel) (by decide +kernel)
set_option maxRecDepth 20000 in
theorem gX1_priceFor_X4_fits_n22 : GoodIn wsX1_priceFor (wsX4_fits) := ggX1_priceFor_X4_fits
theorem dX1_priceFor_0 : decode cX1_priceFor 0 = .ok (.iconst 0, 1) := by decide +kernel
theorem dX1_priceFor_1 : decode cX1_priceFor 1 = .ok (.istore_n 2, 1) := by decide +kernel
theorem dX1_priceFor_2 : decode cX1_priceFor 2 = .ok (.iconst (-1), 1) := by decide +kernel
theorem dX1_priceFor_3 : decode cX1_priceFor 3 = .ok (.istore_n 3, 1) := by decide +kernel
theorem dX1_priceFor_4 : decode cX1_priceFor 4 = .ok (.iconst 0, 1) := by decide +kernel
theorem dX1_priceFor_5 : decode cX1_priceFor 5 = .ok (.istore 4, 2) := by decide +kernel
theorem dX1_priceFor_7 : decode cX1_priceFor 7 = .ok (.iload 4, 2) := by decide +kernel
theorem dX1_priceFor_9 : decode cX1_priceFor 9 = .ok (.bipush 10, 2) := by decide +kernel
theorem dX1_priceFor_11 : decode cX1_priceFor 11 = .ok (.if_icmp .ge 50, 3) := by decide +kernel
theorem dX1_priceFor_14 : decode cX1_priceFor 14 = .ok (.aload_n 0, 1) := by decide +kernel
theorem dX1_priceFor_15 : decode cX1_priceFor 15 = .ok (.getfield 9, 3) := by decide +kernel
theorem dX1_priceFor_18 : decode cX1_priceFor 18 = .ok (.iload 4, 2) := by decide +kernel
theorem dX1_priceFor_20 : decode cX1_priceFor 20 = .ok (.iaload, 1) := by decide +kernel
theorem dX1_priceFor_21 : decode cX1_priceFor 21 = .ok (.iload_n 2, 1) := by decide +kernel
theorem dX1_priceFor_22 : decode cX1_priceFor 22 = .ok (.if_icmp .le 33, 3) := by decide +kernel
theorem dX1_priceFor_25 : decode cX1_priceFor 25 = .ok (.aload_n 0, 1) := by decide +kernel
theorem dX1_priceFor_26 : decode cX1_priceFor 26 = .ok (.getfield 9, 3) := by decide +kernel
theorem dX1_priceFor_29 : decode cX1_priceFor 29 = .ok (.iload 4, 2) := by decide +kernel
theorem dX1_priceFor_31 : decode cX1_priceFor 31 = .ok (.iaload, 1) := by decide +kernel
theorem dX1_priceFor_32 : decode cX1_priceFor 32 = .ok (.iload_n 1, 1) := by decide +kernel
theorem dX1_priceFor_33 : decode cX1_priceFor 33 = .ok (.invokestatic 22, 3) := by decide +kernel
theorem dX1_priceFor_36 : decode cX1_priceFor 36 = .ok (.ifCond .eq 19, 3) := by decide +kernel
theorem dX1_priceFor_39 : decode cX1_priceFor 39 = .ok (.aload_n 0, 1) := by decide +kernel
theorem dX1_priceFor_40 : decode cX1_priceFor 40 = .ok (.getfield 9, 3) := by decide +kernel
theorem dX1_priceFor_43 : decode cX1_priceFor 43 = .ok (.iload 4, 2) := by decide +kernel
theorem dX1_priceFor_45 : decode cX1_priceFor 45 = .ok (.iaload, 1) := by decide +kernel
theorem dX1_priceFor_46 : decode cX1_priceFor 46 = .ok (.istore_n 2, 1) := by decide +kernel
theorem dX1_priceFor_47 : decode cX1_priceFor 47 = .ok (.aload_n 0, 1) := by decide +kernel
theorem dX1_priceFor_48 : decode cX1_priceFor 48 = .ok (.getfield 15, 3) := by decide +kernel
theorem dX1_priceFor_51 : decode cX1_priceFor 51 = .ok (.iload 4, 2) := by decide +kernel
theorem dX1_priceFor_53 : decode cX1_priceFor 53 = .ok (.iaload, 1) := by decide +kernel
theorem dX1_priceFor_54 : decode cX1_priceFor 54 = .ok (.istore_n 3, 1) := by decide +kernel
theorem dX1_priceFor_55 : decode cX1_priceFor 55 = .ok (.iinc 4 1, 3) := by decide +kernel
theorem dX1_priceFor_58 : decode cX1_priceFor 58 = .ok (.goto (-51), 3) := by decide +kernel
theorem dX1_priceFor_61 : decode cX1_priceFor 61 = .ok (.iload_n 3, 1) := by decide +kernel
theorem dX1_priceFor_62 : decode cX1_priceFor 62 = .ok (.ireturn, 1) := by decide +kernel
theorem dX1_placeOf_0 : decode cX1_placeOf 0 = .ok (.iconst 0, 1) := by decide +kernel
theorem dX1_placeOf_1 : decode cX1_placeOf 1 = .ok (.istore_n 2, 1) := by decide +kernel
theorem dX1_placeOf_2 : decode cX1_placeOf 2 = .ok (.iload_n 2, 1) := by decide +kernel
theorem dX1_placeOf_3 : decode cX1_placeOf 3 = .ok (.bipush 10, 2) := by decide +kernel
theorem dX1_placeOf_5 : decode cX1_placeOf 5 = .ok (.if_icmp .ge 21, 3) := by decide +kernel
theorem dX1_placeOf_8 : decode cX1_placeOf 8 = .ok (.aload_n 0, 1) := by decide +kernel
theorem dX1_placeOf_9 : decode cX1_placeOf 9 = .ok (.getfield 9, 3) := by decide +kernel
theorem dX1_placeOf_12 : decode cX1_placeOf 12 = .ok (.iload_n 2, 1) := by decide +kernel
theorem dX1_placeOf_13 : decode cX1_placeOf 13 = .ok (.iaload, 1) := by decide +kernel
theorem dX1_placeOf_14 : decode cX1_placeOf 14 = .ok (.iload_n 1, 1) := by decide +kernel
theorem dX1_placeOf_15 : decode cX1_placeOf 15 = .ok (.if_icmp .ne 5, 3) := by decide +kernel
theorem dX1_placeOf_18 : decode cX1_placeOf 18 = .ok (.iload_n 2, 1) := by decide +kernel
theorem dX1_placeOf_19 : decode cX1_placeOf 19 = .ok (.ireturn, 1) := by decide +kernel
theorem dX1_placeOf_20 : decode cX1_placeOf 20 = .ok (.iinc 2 1, 3) := by decide +kernel
theorem dX1_placeOf_23 : decode cX1_placeOf 23 = .ok (.goto (-21), 3) := by decide +kernel
theorem dX1_placeOf_26 : decode cX1_placeOf 26 = .ok (.iconst (-1), 1) := by decide +kernel
theorem dX1_placeOf_27 : decode cX1_placeOf 27 = .ok (.ireturn, 1) := by decide +kernel
theorem dX2_init_0 : decode cX2_init 0 = .ok (.aload_n 0, 1) := by decide +kernel
theorem dX2_init_1 : decode cX2_init 1 = .ok (.invokespecial 3, 3) := by decide +kernel
theorem dX2_init_4 : decode cX2_init 4 = .ok (.aload_n 0, 1) := by decide +kernel
theorem dX2_init_5 : decode cX2_init 5 = .ok (.iload_n 1, 1) := by decide +kernel
theorem dX2_init_6 : decode cX2_init 6 = .ok (.putfield 9, 3) := by decide +kernel
theorem dX2_init_9 : decode cX2_init 9 = .ok (.aload_n 0, 1) := by decide +kernel
theorem dX2_init_10 : decode cX2_init 10 = .ok (.iload_n 2, 1) := by decide +kernel
theorem dX2_init_11 : decode cX2_init 11 = .ok (.putfield 15, 3) := by decide +kernel
theorem dX2_init_14 : decode cX2_init 14 = .ok (.aload_n 0, 1) := by decide +kernel
theorem dX2_init_15 : decode cX2_init 15 = .ok (.iload_n 3, 1) := by decide +kernel
theorem dX2_init_16 : decode cX2_init 16 = .ok (.putfield 18, 3) := by decide +kernel
theorem dX2_init_19 : decode cX2_init 19 = .ok (.aload_n 0, 1) := by decide +kernel
theorem dX2_init_20 : decode cX2_init 20 = .ok (.iload 4, 2) := by decide +kernel
theorem dX2_init_22 : decode cX2_init 22 = .ok (.putfield 21, 3) := by decide +kernel
theorem dX2_init_25 : decode cX2_init 25 = .ok (.aload_n 0, 1) := by decide +kernel
theorem dX2_init_26 : decode cX2_init 26 = .ok (.iload 5, 2) := by decide +kernel
theorem dX2_init_28 : decode cX2_init 28 = .ok (.putfield 24, 3) := by decide +kernel
theorem dX2_init_31 : decode cX2_init 31 = .ok (.aload_n 0, 1) := by decide +kernel
theorem dX2_init_32 : decode cX2_init 32 = .ok (.iload 6, 2) := by decide +kernel
theorem dX2_init_34 : decode cX2_init 34 = .ok (.putfield 27, 3) := by decide +kernel
theorem dX2_init_37 : decode cX2_init 37 = .ok (.aload_n 0, 1) := by decide +kernel
theorem dX2_init_38 : decode cX2_init 38 = .ok (.iload 7, 2) := by decide +kernel
theorem dX2_init_40 : decode cX2_init 40 = .ok (.putfield 30, 3) := by decide +kernel
theorem dX2_init_43 : decode cX2_init 43 = .ok (.return_, 1) := by decide +kernel
theorem dX2_goesBefore_0 : decode cX2_goesBefore 0 = .ok (.aload_n 0, 1) := by decide +kernel
theorem dX2_goesBefore_1 : decode cX2_goesBefore 1 = .ok (.getfield 15, 3) := by decide +kernel
theorem dX2_goesBefore_4 : decode cX2_goesBefore 4 = .ok (.aload_n 1, 1) := by decide +kernel
theorem dX2_goesBefore_5 : decode cX2_goesBefore 5 = .ok (.getfield 15, 3) := by decide +kernel
theorem dX2_goesBefore_8 : decode cX2_goesBefore 8 = .ok (.if_icmp .eq 20, 3) := by decide +kernel
theorem dX2_goesBefore_11 : decode cX2_goesBefore 11 = .ok (.aload_n 0, 1) := by decide +kernel
theorem dX2_goesBefore_12 : decode cX2_goesBefore 12 = .ok (.getfield 15, 3) := by decide +kernel
theorem dX2_goesBefore_15 : decode cX2_goesBefore 15 = .ok (.aload_n 1, 1) := by decide +kernel
theorem dX2_goesBefore_16 : decode cX2_goesBefore 16 = .ok (.getfield 15, 3) := by decide +kernel
theorem dX2_goesBefore_19 : decode cX2_goesBefore 19 = .ok (.if_icmp .le 7, 3) := by decide +kernel
theorem dX2_goesBefore_22 : decode cX2_goesBefore 22 = .ok (.iconst 1, 1) := by decide +kernel
theorem dX2_goesBefore_23 : decode cX2_goesBefore 23 = .ok (.goto 4, 3) := by decide +kernel
theorem dX2_goesBefore_26 : decode cX2_goesBefore 26 = .ok (.iconst 0, 1) := by decide +kernel
theorem dX2_goesBefore_27 : decode cX2_goesBefore 27 = .ok (.ireturn, 1) := by decide +kernel
theorem dX2_goesBefore_28 : decode cX2_goesBefore 28 = .ok (.aload_n 0, 1) := by decide +kernel
theorem dX2_goesBefore_29 : decode cX2_goesBefore 29 = .ok (.getfield 18, 3) := by decide +kernel
theorem dX2_goesBefore_32 : decode cX2_goesBefore 32 = .ok (.aload_n 1, 1) := by decide +kernel
theorem dX2_goesBefore_33 : decode cX2_goesBefore 33 = .ok (.getfield 18, 3) := by decide +kernel
theorem dX2_goesBefore_36 : decode cX2_goesBefore 36 = .ok (.if_icmp .eq 22, 3) := by decide +kernel
theorem dX2_goesBefore_39 : decode cX2_goesBefore 39 = .ok (.aload_n 0, 1) := by decide +kernel
theorem dX2_goesBefore_40 : decode cX2_goesBefore 40 = .ok (.getfield 18, 3) := by decide +kernel
theorem dX2_goesBefore_43 : decode cX2_goesBefore 43 = .ok (.aload_n 1, 1) := by decide +kernel
theorem dX2_goesBefore_44 : decode cX2_goesBefore 44 = .ok (.getfield 18, 3) := by decide +kernel
theorem dX2_goesBefore_47 : decode cX2_goesBefore 47 = .ok (.if_icmp .le 7, 3) := by decide +kernel
theorem dX2_goesBefore_50 : decode cX2_goesBefore 50 = .ok (.iconst 1, 1) := by decide +kernel
theorem dX2_goesBefore_51 : decode cX2_goesBefore 51 = .ok (.goto 23, 3) := by decide +kernel
theorem dX2_goesBefore_54 : decode cX2_goesBefore 54 = .ok (.iconst 0, 1) := by decide +kernel
theorem dX2_goesBefore_55 : decode cX2_goesBefore 55 = .ok (.goto 19, 3) := by decide +kernel
theorem dX2_goesBefore_58 : decode cX2_goesBefore 58 = .ok (.aload_n 0, 1) := by decide +kernel
theorem dX2_goesBefore_59 : decode cX2_goesBefore 59 = .ok (.getfield 9, 3) := by decide +kernel
theorem dX2_goesBefore_62 : decode cX2_goesBefore 62 = .ok (.aload_n 1, 1) := by decide +kernel
theorem dX2_goesBefore_63 : decode cX2_goesBefore 63 = .ok (.getfield 9, 3) := by decide +kernel
theorem dX2_goesBefore_66 : decode cX2_goesBefore 66 = .ok (.if_icmp .le 7, 3) := by decide +kernel
theorem dX2_goesBefore_69 : decode cX2_goesBefore 69 = .ok (.iconst 1, 1) := by decide +kernel
theorem dX2_goesBefore_70 : decode cX2_goesBefore 70 = .ok (.goto 4, 3) := by decide +kernel
theorem dX2_goesBefore_73 : decode cX2_goesBefore 73 = .ok (.iconst 0, 1) := by decide +kernel
theorem dX2_goesBefore_74 : decode cX2_goesBefore 74 = .ok (.ireturn, 1) := by decide +kernel
set_option maxRecDepth 20000 in
theorem ggX2_chargeFor_X2_quotientUp : GoodIn wsX2_chargeFor wsX2_quotientUp := goodIn_r _ [12] (by decide +kernel) (by decide +kernel)
set_option maxRecDepth 20000 in
theorem gX2_chargeFor_X2_quotientUp : GoodIn wsX2_chargeFor (va_wsS RX2 33 yX2_quotientUp wsX2_quotientUp) := goodIn_app (goodIn_of _ (by decide +kernel)) ggX2_chargeFor_X2_quotientUp
theorem dX2_chargeFor_0 : decode cX2_chargeFor 0 = .ok (.iload_n 1, 1) := by decide +kernel
theorem dX2_chargeFor_1 : decode cX2_chargeFor 1 = .ok (.aload_n 0, 1) := by decide +kernel
theorem dX2_chargeFor_2 : decode cX2_chargeFor 2 = .ok (.getfield 24, 3) := by decide +kernel
theorem dX2_chargeFor_5 : decode cX2_chargeFor 5 = .ok (.invokestatic 33, 3) := by decide +kernel
theorem dX2_chargeFor_8 : decode cX2_chargeFor 8 = .ok (.aload_n 0, 1) := by decide +kernel
theorem dX2_chargeFor_9 : decode cX2_chargeFor 9 = .ok (.getfield 24, 3) := by decide +kernel
theorem dX2_chargeFor_12 : decode cX2_chargeFor 12 = .ok (.imul, 1) := by decide +kernel
theorem dX2_chargeFor_13 : decode cX2_chargeFor 13 = .ok (.aload_n 0, 1) := by decide +kernel
theorem dX2_chargeFor_14 : decode cX2_chargeFor 14 = .ok (.getfield 27, 3) := by decide +kernel
theorem dX2_chargeFor_17 : decode cX2_chargeFor 17 = .ok (.invokestatic 37, 3) := by decide +kernel
theorem dX2_chargeFor_20 : decode cX2_chargeFor 20 = .ok (.istore_n 2, 1) := by decide +kernel
theorem dX2_chargeFor_21 : decode cX2_chargeFor 21 = .ok (.aload_n 0, 1) := by decide +kernel
theorem dX2_chargeFor_22 : decode cX2_chargeFor 22 = .ok (.getfield 30, 3) := by decide +kernel
theorem dX2_chargeFor_25 : decode cX2_chargeFor 25 = .ok (.aload_n 0, 1) := by decide +kernel
theorem dX2_chargeFor_26 : decode cX2_chargeFor 26 = .ok (.getfield 21, 3) := by decide +kernel
theorem dX2_chargeFor_29 : decode cX2_chargeFor 29 = .ok (.iload_n 2, 1) := by decide +kernel
theorem dX2_chargeFor_30 : decode cX2_chargeFor 30 = .ok (.imul, 1) := by decide +kernel
theorem dX2_chargeFor_31 : decode cX2_chargeFor 31 = .ok (.bipush 60, 2) := by decide +kernel
theorem dX2_chargeFor_33 : decode cX2_chargeFor 33 = .ok (.invokestatic 33, 3) := by decide +kernel
theorem dX2_chargeFor_36 : decode cX2_chargeFor 36 = .ok (.iadd, 1) := by decide +kernel
theorem dX2_chargeFor_37 : decode cX2_chargeFor 37 = .ok (.ireturn, 1) := by decide +kernel
theorem dX2_quotientUp_0 : decode cX2_quotientUp 0 = .ok (.iload_n 1, 1) := by decide +kernel
theorem dX2_quotientUp_1 : decode cX2_quotientUp 1 = .ok (.iconst 1, 1) := by decide +kernel
theorem dX2_quotientUp_2 : decode cX2_quotientUp 2 = .ok (.if_icmp .ge 7, 3) := by decide +kernel
theorem dX2_quotientUp_5 : decode cX2_quotientUp 5 = .ok (.iconst 0, 1) := by decide +kernel
theorem dX2_quotientUp_6 : decode cX2_quotientUp 6 = .ok (.goto 10, 3) := by decide +kernel
theorem dX2_quotientUp_9 : decode cX2_quotientUp 9 = .ok (.iload_n 0, 1) := by decide +kernel
theorem dX2_quotientUp_10 : decode cX2_quotientUp 10 = .ok (.iload_n 1, 1) := by decide +kernel
theorem dX2_quotientUp_11 : decode cX2_quotientUp 11 = .ok (.iadd, 1) := by decide +kernel
theorem dX2_quotientUp_12 : decode cX2_quotientUp 12 = .ok (.iconst 1, 1) := by decide +kernel
theorem dX2_quotientUp_13 : decode cX2_quotientUp 13 = .ok (.isub, 1) := by decide +kernel
theorem dX2_quotientUp_14 : decode cX2_quotientUp 14 = .ok (.iload_n 1, 1) := by decide +kernel
theorem dX2_quotientUp_15 : decode cX2_quotientUp 15 = .ok (.idiv, 1) := by decide +kernel
theorem dX2_quotientUp_16 : decode cX2_quotientUp 16 = .ok (.ireturn, 1) := by decide +kernel
theorem dX3_init_0 : decode cX3_init 0 = .ok (.aload_n 0, 1) := by decide +kernel
theorem dX3_init_1 : decode cX3_init 1 = .ok (.invokespecial 3, 3) := by decide +kernel
theorem dX3_init_4 : decode cX3_init 4 = .ok (.aload_n 0, 1) := by decide +kernel
theorem dX3_init_5 : decode cX3_init 5 = .ok (.sipush 157, 3) := by decide +kernel
theorem dX3_init_8 : decode cX3_init 8 = .ok (.newarray .long, 2) := by decide +kernel
theorem dX3_init_10 : decode cX3_init 10 = .ok (.putfield 11, 3) := by decide +kernel
theorem dX3_init_13 : decode cX3_init 13 = .ok (.aload_n 0, 1) := by decide +kernel
theorem dX3_init_14 : decode cX3_init 14 = .ok (.sipush 9999, 3) := by decide +kernel
theorem dX3_init_17 : decode cX3_init 17 = .ok (.putfield 15, 3) := by decide +kernel
theorem dX3_init_20 : decode cX3_init 20 = .ok (.return_, 1) := by decide +kernel
set_option maxRecDepth 20000 in
theorem ggX3_has_X3_bitOf : GoodIn wsX3_has wsX3_bitOf := goodIn_r _ [5] (by decide +kernel) (by decide +kernel)
set_option maxRecDepth 20000 in
theorem gX3_has_X3_bitOf : GoodIn wsX3_has (va_wsS RX3 19 yX3_bitOf wsX3_bitOf) := goodIn_app (goodIn_of _ (by decide +kernel)) ggX3_has_X3_bitOf
theorem dX3_has_0 : decode cX3_has 0 = .ok (.iload_n 1, 1) := by decide +kernel
theorem dX3_has_1 : decode cX3_has 1 = .ok (.bipush 64, 2) := by decide +kernel
theorem dX3_has_3 : decode cX3_has 3 = .ok (.idiv, 1) := by decide +kernel
theorem dX3_has_4 : decode cX3_has 4 = .ok (.istore_n 2, 1) := by decide +kernel
theorem dX3_has_5 : decode cX3_has 5 = .ok (.iload_n 1, 1) := by decide +kernel
theorem dX3_has_6 : decode cX3_has 6 = .ok (.ifCond .lt 32, 3) := by decide +kernel
theorem dX3_has_9 : decode cX3_has 9 = .ok (.iload_n 2, 1) := by decide +kernel
theorem dX3_has_10 : decode cX3_has 10 = .ok (.aload_n 0, 1) := by decide +kernel
theorem dX3_has_11 : decode cX3_has 11 = .ok (.getfield 11, 3) := by decide +kernel
theorem dX3_has_14 : decode cX3_has 14 = .ok (.arraylength, 1) := by decide +kernel
theorem dX3_has_15 : decode cX3_has 15 = .ok (.if_icmp .ge 23, 3) := by decide +kernel
theorem dX3_has_18 : decode cX3_has 18 = .ok (.aload_n 0, 1) := by decide +kernel
theorem dX3_has_19 : decode cX3_has 19 = .ok (.getfield 11, 3) := by decide +kernel
theorem dX3_has_22 : decode cX3_has 22 = .ok (.iload_n 2, 1) := by decide +kernel
theorem dX3_has_23 : decode cX3_has 23 = .ok (.laload, 1) := by decide +kernel
theorem dX3_has_24 : decode cX3_has 24 = .ok (.iload_n 1, 1) := by decide +kernel
theorem dX3_has_25 : decode cX3_has 25 = .ok (.invokestatic 19, 3) := by decide +kernel
theorem dX3_has_28 : decode cX3_has 28 = .ok (.land, 1) := by decide +kernel
theorem dX3_has_29 : decode cX3_has 29 = .ok (.lconst 0, 1) := by decide +kernel
theorem dX3_has_30 : decode cX3_has 30 = .ok (.lcmp, 1) := by decide +kernel
theorem dX3_has_31 : decode cX3_has 31 = .ok (.ifCond .eq 7, 3) := by decide +kernel
theorem dX3_has_34 : decode cX3_has 34 = .ok (.iconst 1, 1) := by decide +kernel
theorem dX3_has_35 : decode cX3_has 35 = .ok (.goto 4, 3) := by decide +kernel
theorem dX3_has_38 : decode cX3_has 38 = .ok (.iconst 0, 1) := by decide +kernel
theorem dX3_has_39 : decode cX3_has 39 = .ok (.ireturn, 1) := by decide +kernel
set_option maxRecDepth 20000 in
theorem ggX3_add_X3_bitOf : GoodIn wsX3_add wsX3_bitOf := goodIn_r _ [15] (by decide +kernel) (by decide +kernel)
set_option maxRecDepth 20000 in
theorem gX3_add_X3_bitOf : GoodIn wsX3_add (va_wsS RX3 19 yX3_bitOf wsX3_bitOf) := goodIn_app (goodIn_of _ (by decide +kernel)) ggX3_add_X3_bitOf
theorem dX3_add_0 : decode cX3_add 0 = .ok (.iload_n 1, 1) := by decide +kernel
theorem dX3_add_1 : decode cX3_add 1 = .ok (.bipush 64, 2) := by decide +kernel
theorem dX3_add_3 : decode cX3_add 3 = .ok (.idiv, 1) := by decide +kernel
theorem dX3_add_4 : decode cX3_add 4 = .ok (.istore_n 2, 1) := by decide +kernel
theorem dX3_add_5 : decode cX3_add 5 = .ok (.iload_n 1, 1) := by decide +kernel
theorem dX3_add_6 : decode cX3_add 6 = .ok (.ifCond .lt 12, 3) := by decide +kernel
theorem dX3_add_9 : decode cX3_add 9 = .ok (.iload_n 2, 1) := by decide +kernel
theorem dX3_add_10 : decode cX3_add 10 = .ok (.aload_n 0, 1) := by decide +kernel
theorem dX3_add_11 : decode cX3_add 11 = .ok (.getfield 11, 3) := by decide +kernel
theorem dX3_add_14 : decode cX3_add 14 = .ok (.arraylength, 1) := by decide +kernel
theorem dX3_add_15 : decode cX3_add 15 = .ok (.if_icmp .lt 4, 3) := by decide +kernel
theorem dX3_add_18 : decode cX3_add 18 = .ok (.return_, 1) := by decide +kernel
theorem dX3_add_19 : decode cX3_add 19 = .ok (.aload_n 0, 1) := by decide +kernel
theorem dX3_add_20 : decode cX3_add 20 = .ok (.getfield 11, 3) := by decide +kernel
theorem dX3_add_23 : decode cX3_add 23 = .ok (.iload_n 2, 1) := by decide +kernel
theorem dX3_add_24 : decode cX3_add 24 = .ok (.dup2, 1) := by decide +kernel
theorem dX3_add_25 : decode cX3_add 25 = .ok (.laload, 1) := by decide +kernel
theorem dX3_add_26 : decode cX3_add 26 = .ok (.iload_n 1, 1) := by decide +kernel
theorem dX3_add_27 : decode cX3_add 27 = .ok (.invokestatic 19, 3) := by decide +kernel
theorem dX3_add_30 : decode cX3_add 30 = .ok (.lor, 1) := by decide +kernel
theorem dX3_add_31 : decode cX3_add 31 = .ok (.lastore, 1) := by decide +kernel
theorem dX3_add_32 : decode cX3_add 32 = .ok (.aload_n 0, 1) := by decide +kernel
theorem dX3_add_33 : decode cX3_add 33 = .ok (.dup, 1) := by decide +kernel
theorem dX3_add_34 : decode cX3_add 34 = .ok (.getfield 23, 3) := by decide +kernel
theorem dX3_add_37 : decode cX3_add 37 = .ok (.iconst 1, 1) := by decide +kernel
theorem dX3_add_38 : decode cX3_add 38 = .ok (.iadd, 1) := by decide +kernel
theorem dX3_add_39 : decode cX3_add 39 = .ok (.putfield 23, 3) := by decide +kernel
theorem dX3_add_42 : decode cX3_add 42 = .ok (.aload_n 0, 1) := by decide +kernel
theorem dX3_add_43 : decode cX3_add 43 = .ok (.aload_n 0, 1) := by decide +kernel
theorem dX3_add_44 : decode cX3_add 44 = .ok (.getfield 15, 3) := by decide +kernel
theorem dX3_add_47 : decode cX3_add 47 = .ok (.iload_n 1, 1) := by decide +kernel
theorem dX3_add_48 : decode cX3_add 48 = .ok (.invokestatic 26, 3) := by decide +kernel
theorem dX3_add_51 : decode cX3_add 51 = .ok (.putfield 15, 3) := by decide +kernel
theorem dX3_add_54 : decode cX3_add 54 = .ok (.aload_n 0, 1) := by decide +kernel
theorem dX3_add_55 : decode cX3_add 55 = .ok (.aload_n 0, 1) := by decide +kernel
theorem dX3_add_56 : decode cX3_add 56 = .ok (.getfield 32, 3) := by decide +kernel
theorem dX3_add_59 : decode cX3_add 59 = .ok (.iload_n 1, 1) := by decide +kernel
theorem dX3_add_60 : decode cX3_add 60 = .ok (.invokestatic 35, 3) := by decide +kernel
theorem dX3_add_63 : decode cX3_add 63 = .ok (.putfield 32, 3) := by decide +kernel
theorem dX3_add_66 : decode cX3_add 66 = .ok (.return_, 1) := by decide +kernel
theorem dX3_missing_0 : decode cX3_missing 0 = .ok (.aload_n 0, 1) := by decide +kernel
theorem dX3_missing_1 : decode cX3_missing 1 = .ok (.getfield 23, 3) := by decide +kernel
theorem dX3_missing_4 : decode cX3_missing 4 = .ok (.ifCond .ne 7, 3) := by decide +kernel
theorem dX3_missing_7 : decode cX3_missing 7 = .ok (.iconst 0, 1) := by decide +kernel
theorem dX3_missing_8 : decode cX3_missing 8 = .ok (.goto 19, 3) := by decide +kernel
theorem dX3_missing_11 : decode cX3_missing 11 = .ok (.aload_n 0, 1) := by decide +kernel
theorem dX3_missing_12 : decode cX3_missing 12 = .ok (.getfield 32, 3) := by decide +kernel
theorem dX3_missing_15 : decode cX3_missing 15 = .ok (.aload_n 0, 1) := by decide +kernel
theorem dX3_missing_16 : decode cX3_missing 16 = .ok (.getfield 15, 3) := by decide +kernel
theorem dX3_missing_19 : decode cX3_missing 19 = .ok (.isub, 1) := by decide +kernel
theorem dX3_missing_20 : decode cX3_missing 20 = .ok (.iconst 1, 1) := by decide +kernel
theorem dX3_missing_21 : decode cX3_missing 21 = .ok (.iadd, 1) := by decide +kernel
theorem dX3_missing_22 : decode cX3_missing 22 = .ok (.aload_n 0, 1) := by decide +kernel
theorem dX3_missing_23 : decode cX3_missing 23 = .ok (.getfield 23, 3) := by decide +kernel
theorem dX3_missing_26 : decode cX3_missing 26 = .ok (.isub, 1) := by decide +kernel
theorem dX3_missing_27 : decode cX3_missing 27 = .ok (.ireturn, 1) := by decide +kernel
theorem dX3_bitOf_0 : decode cX3_bitOf 0 = .ok (.lconst 1, 1) := by decide +kernel
theorem dX3_bitOf_1 : decode cX3_bitOf 1 = .ok (.iload_n 0, 1) := by decide +kernel
theorem dX3_bitOf_2 : decode cX3_bitOf 2 = .ok (.bipush 64, 2) := by decide +kernel
theorem dX3_bitOf_4 : decode cX3_bitOf 4 = .ok (.irem, 1) := by decide +kernel
theorem dX3_bitOf_5 : decode cX3_bitOf 5 = .ok (.lshl, 1) := by decide +kernel
theorem dX3_bitOf_6 : decode cX3_bitOf 6 = .ok (.lreturn, 1) := by decide +kernel
set_option maxRecDepth 20000 in
theorem ggX4_init_X3_init : GoodIn wsX4_init wsX3_init := goodIn_r _ [18, 19, 2, 3, 20, 21, 22, 37, 38, 39, 40, 41] (by decide +kernel) (by decide +kernel)
set_option maxRecDepth 20000 in
theorem gX4_init_X3_init_n37 : GoodIn wsX4_init (wsX3_init) := ggX4_init_X3_init
set_option maxRecDepth 20000 in
theorem ggX4_init_X1_init : GoodIn wsX4_init wsX1_init := goodIn_r _ [24, 25, 2, 3, 26, 27, 28, 42, 43] (by decide +kernel) (by decide +kernel)
set_option maxRecDepth 20000 in
theorem gX4_init_X1_init_n38 : GoodIn wsX4_init (wsX1_init) := ggX4_init_X1_init
theorem dX4_init_0 : decode cX4_init 0 = .ok (.aload_n 0, 1) := by decide +kernel
theorem dX4_init_1 : decode cX4_init 1 = .ok (.invokespecial 1, 3) := by decide +kernel
theorem dX4_init_4 : decode cX4_init 4 = .ok (.aload_n 0, 1) := by decide +kernel
theorem dX4_init_5 : decode cX4_init 5 = .ok (.iconst 3, 1) := by decide +kernel
theorem dX4_init_6 : decode cX4_init 6 = .ok (.anewarray 9, 3) := by decide +kernel
theorem dX4_init_9 : decode cX4_init 9 = .ok (.putfield 11, 3) := by decide +kernel
theorem dX4_init_12 : decode cX4_init 12 = .ok (.aload_n 0, 1) := by decide +kernel
theorem dX4_init_13 : decode cX4_init 13 = .ok (.bipush 60, 2) := by decide +kernel
theorem dX4_init_15 : decode cX4_init 15 = .ok (.anewarray 15, 3) := by decide +kernel
theorem dX4_init_18 : decode cX4_init 18 = .ok (.putfield 17, 3) := by decide +kernel
theorem dX4_init_21 : decode cX4_init 21 = .ok (.aload_n 0, 1) := by decide +kernel
theorem dX4_init_22 : decode cX4_init 22 = .ok (.iconst 5, 1) := by decide +kernel
theorem dX4_init_23 : decode cX4_init 23 = .ok (.putfield 21, 3) := by decide +kernel
theorem dX4_init_26 : decode cX4_init 26 = .ok (.aload_n 0, 1) := by decide +kernel
theorem dX4_init_27 : decode cX4_init 27 = .ok (.bipush 30, 2) := by decide +kernel
theorem dX4_init_29 : decode cX4_init 29 = .ok (.anewarray 25, 3) := by decide +kernel
theorem dX4_init_32 : decode cX4_init 32 = .ok (.putfield 27, 3) := by decide +kernel
theorem dX4_init_35 : decode cX4_init 35 = .ok (.aload_n 0, 1) := by decide +kernel
theorem dX4_init_36 : decode cX4_init 36 = .ok (.iconst 4, 1) := by decide +kernel
theorem dX4_init_37 : decode cX4_init 37 = .ok (.anewarray 31, 3) := by decide +kernel
theorem dX4_init_40 : decode cX4_init 40 = .ok (.putfield 33, 3) := by decide +kernel
theorem dX4_init_43 : decode cX4_init 43 = .ok (.iconst 0, 1) := by decide +kernel
theorem dX4_init_44 : decode cX4_init 44 = .ok (.istore_n 1, 1) := by decide +kernel
theorem dX4_init_45 : decode cX4_init 45 = .ok (.iload_n 1, 1) := by decide +kernel
theorem dX4_init_46 : decode cX4_init 46 = .ok (.aload_n 0, 1) := by decide +kernel
theorem dX4_init_47 : decode cX4_init 47 = .ok (.getfield 11, 3) := by decide +kernel
theorem dX4_init_50 : decode cX4_init 50 = .ok (.arraylength, 1) := by decide +kernel
theorem dX4_init_51 : decode cX4_init 51 = .ok (.if_icmp .ge 22, 3) := by decide +kernel
theorem dX4_init_54 : decode cX4_init 54 = .ok (.aload_n 0, 1) := by decide +kernel
theorem dX4_init_55 : decode cX4_init 55 = .ok (.getfield 11, 3) := by decide +kernel
theorem dX4_init_58 : decode cX4_init 58 = .ok (.iload_n 1, 1) := by decide +kernel
theorem dX4_init_59 : decode cX4_init 59 = .ok (.new 9, 3) := by decide +kernel
theorem dX4_init_62 : decode cX4_init 62 = .ok (.dup, 1) := by decide +kernel
theorem dX4_init_63 : decode cX4_init 63 = .ok (.invokespecial 37, 3) := by decide +kernel
theorem dX4_init_66 : decode cX4_init 66 = .ok (.aastore, 1) := by decide +kernel
theorem dX4_init_67 : decode cX4_init 67 = .ok (.iinc 1 1, 3) := by decide +kernel
theorem dX4_init_70 : decode cX4_init 70 = .ok (.goto (-25), 3) := by decide +kernel
theorem dX4_init_73 : decode cX4_init 73 = .ok (.iconst 0, 1) := by decide +kernel
theorem dX4_init_74 : decode cX4_init 74 = .ok (.istore_n 1, 1) := by decide +kernel
theorem dX4_init_75 : decode cX4_init 75 = .ok (.iload_n 1, 1) := by decide +kernel
theorem dX4_init_76 : decode cX4_init 76 = .ok (.aload_n 0, 1) := by decide +kernel
theorem dX4_init_77 : decode cX4_init 77 = .ok (.getfield 33, 3) := by decide +kernel
theorem dX4_init_80 : decode cX4_init 80 = .ok (.arraylength, 1) := by decide +kernel
theorem dX4_init_81 : decode cX4_init 81 = .ok (.if_icmp .ge 22, 3) := by decide +kernel
theorem dX4_init_84 : decode cX4_init 84 = .ok (.aload_n 0, 1) := by decide +kernel
theorem dX4_init_85 : decode cX4_init 85 = .ok (.getfield 33, 3) := by decide +kernel
theorem dX4_init_88 : decode cX4_init 88 = .ok (.iload_n 1, 1) := by decide +kernel
theorem dX4_init_89 : decode cX4_init 89 = .ok (.new 31, 3) := by decide +kernel
theorem dX4_init_92 : decode cX4_init 92 = .ok (.dup, 1) := by decide +kernel
theorem dX4_init_93 : decode cX4_init 93 = .ok (.invokespecial 38, 3) := by decide +kernel
theorem dX4_init_96 : decode cX4_init 96 = .ok (.aastore, 1) := by decide +kernel
theorem dX4_init_97 : decode cX4_init 97 = .ok (.iinc 1 1, 3) := by decide +kernel
theorem dX4_init_100 : decode cX4_init 100 = .ok (.goto (-25), 3) := by decide +kernel
theorem dX4_init_103 : decode cX4_init 103 = .ok (.return_, 1) := by decide +kernel
set_option maxRecDepth 20000 in
theorem ggX4_setBound_X4_within : GoodIn wsX4_setBound wsX4_within := goodIn_r _ [7] (by decide +kernel) (by decide +kernel)
set_option maxRecDepth 20000 in
theorem gX4_setBound_X4_within : GoodIn wsX4_setBound (va_wsS RX4 39 yX4_within wsX4_within) := goodIn_app (goodIn_of _ (by decide +kernel)) ggX4_setBound_X4_within
theorem dX4_setBound_0 : decode cX4_setBound 0 = .ok (.iload_n 1, 1) := by decide +kernel
theorem dX4_setBound_1 : decode cX4_setBound 1 = .ok (.iconst 0, 1) := by decide +kernel
theorem dX4_setBound_2 : decode cX4_setBound 2 = .ok (.bipush 100, 2) := by decide +kernel
theorem dX4_setBound_4 : decode cX4_setBound 4 = .ok (.invokestatic 39, 3) := by decide +kernel
theorem dX4_setBound_7 : decode cX4_setBound 7 = .ok (.ifCond .ne 13, 3) := by decide +kernel
theorem dX4_setBound_10 : decode cX4_setBound 10 = .ok (.new 43, 3) := by decide +kernel
theorem dX4_setBound_13 : decode cX4_setBound 13 = .ok (.dup, 1) := by decide +kernel
theorem dX4_setBound_14 : decode cX4_setBound 14 = .ok (.ldc 45, 2) := by decide +kernel
theorem dX4_setBound_16 : decode cX4_setBound 16 = .ok (.invokespecial 47, 3) := by decide +kernel
theorem dX4_setBound_19 : decode cX4_setBound 19 = .ok (.athrow, 1) := by decide +kernel
theorem dX4_setBound_20 : decode cX4_setBound 20 = .ok (.aload_n 0, 1) := by decide +kernel
theorem dX4_setBound_21 : decode cX4_setBound 21 = .ok (.getfield 21, 3) := by decide +kernel
theorem dX4_setBound_24 : decode cX4_setBound 24 = .ok (.istore_n 2, 1) := by decide +kernel
theorem dX4_setBound_25 : decode cX4_setBound 25 = .ok (.aload_n 0, 1) := by decide +kernel
theorem dX4_setBound_26 : decode cX4_setBound 26 = .ok (.iload_n 1, 1) := by decide +kernel
theorem dX4_setBound_27 : decode cX4_setBound 27 = .ok (.putfield 21, 3) := by decide +kernel
theorem dX4_setBound_30 : decode cX4_setBound 30 = .ok (.iload_n 2, 1) := by decide +kernel
theorem dX4_setBound_31 : decode cX4_setBound 31 = .ok (.ireturn, 1) := by decide +kernel
set_option maxRecDepth 20000 in
theorem ggX4_record_X4_sourceAt : GoodIn wsX4_record wsX4_sourceAt := goodIn_r _ [12, 13, 101, 102, 103, 104, 105, 106, 107, 108] (by decide +kernel) (by decide +kernel)
set_option maxRecDepth 20000 in
theorem gX4_record_X4_sourceAt : GoodIn wsX4_record (wsV RX4 50 RX4 yX4_sourceAt wsX4_sourceAt) := goodIn_app (goodIn_of _ (by decide +kernel)) ggX4_record_X4_sourceAt
set_option maxRecDepth 20000 in
theorem ggX4_record_X4_within : GoodIn wsX4_record wsX4_within := goodIn_r _ [16] (by decide +kernel) (by decide +kernel)
set_option maxRecDepth 20000 in
theorem gX4_record_X4_within : GoodIn wsX4_record (va_wsS RX4 39 yX4_within wsX4_within) := goodIn_app (goodIn_of _ (by decide +kernel)) ggX4_record_X4_within
set_option maxRecDepth 20000 in
theorem ggX4_record_X4_isNumber : GoodIn wsX4_record wsX4_isNumber := goodIn_r _ [19, 20, 14, 15, 11, 16] (by decide +kernel) (by decide +kernel)
set_option maxRecDepth 20000 in
theorem gX4_record_X4_isNumber : GoodIn wsX4_record (va_wsS RX4 54 yX4_isNumber wsX4_isNumber) := goodIn_app (goodIn_of _ (by decide +kernel)) ggX4_record_X4_isNumber
set_option maxRecDepth 20000 in
theorem ggX4_record_X3_has : GoodIn wsX4_record wsX3_has := goodIn_r _ [25, 26, 27, 28, 24, 29, 88, 89, 90, 91, 92] (by decide +kernel) (by decide +kernel)
set_option maxRecDepth 20000 in
theorem gX4_record_X3_has : GoodIn wsX4_record (wsV RX4 61 RX3 yX3_has wsX3_has) := goodIn_app (goodIn_of _ (by decide +kernel)) ggX4_record_X3_has
set_option maxRecDepth 20000 in
theorem ggX4_record_X4_callJoinedBy : GoodIn wsX4_record wsX4_callJoinedBy := goodIn_r _ [33, 34, 35, 36, 37, 38, 39, 40, 41, 42, 43, 44, 45, 46, 47, 48, 49, 50, 51, 52, 101, 102, 103, 104, 105, 106, 107, 108, 93, 94, 95, 96, 97, 98, 99, 100] (by decide +kernel) (by decide +kernel)
set_option maxRecDepth 20000 in
theorem gX4_record_X4_callJoinedBy : GoodIn wsX4_record (wsV RX4 67 RX4 yX4_callJoinedBy wsX4_callJoinedBy) := goodIn_app (goodIn_of _ (by decide +kernel)) ggX4_record_X4_callJoinedBy
set_option maxRecDepth 20000 in
theorem ggX4_record_X4_newCall : GoodIn wsX4_record wsX4_newCall := goodIn_r _ [56, 57, 34, 58, 59, 40, 60, 61, 62, 63, 64, 65, 66, 67, 68, 47, 52, 101, 102, 103, 104, 105, 106, 107, 108, 93, 94, 95, 96, 97, 98, 99, 100] (by decide +kernel) (by decide +kernel)
set_option maxRecDepth 20000 in
theorem gX4_record_X4_newCall : GoodIn wsX4_record (wsV RX4 71 RX4 yX4_newCall wsX4_newCall) := goodIn_app (goodIn_of _ (by decide +kernel)) ggX4_record_X4_newCall
set_option maxRecDepth 20000 in
theorem ggX4_record_X3_add : GoodIn wsX4_record wsX3_add := goodIn_r _ [72, 26, 73, 74, 75, 76, 50, 77, 78, 79, 80, 81, 27, 28, 24, 29, 88, 89, 90, 91, 92] (by decide +kernel) (by decide +kernel)
set_option maxRecDepth 20000 in
theorem gX4_record_X3_add : GoodIn wsX4_record (wsV RX4 80 RX3 yX3_add wsX3_add) := goodIn_app (goodIn_of _ (by decide +kernel)) ggX4_record_X3_add
set_option maxRecDepth 20000 in
theorem ggX4_record_X0_addLeg : GoodIn wsX4_record wsX0_addLeg := goodIn_r _ [85, 42, 86, 87, 80, 50, 81, 93, 94, 95, 96, 97, 98, 99, 100] (by decide +kernel) (by decide +kernel)
set_option maxRecDepth 20000 in
theorem gX4_record_X0_addLeg : GoodIn wsX4_record (wsV RX4 84 RX0 yX0_addLeg wsX0_addLeg) := goodIn_app (goodIn_of _ (by decide +kernel)) ggX4_record_X0_addLeg
theorem dX4_record_0 : decode cX4_record 0 = .ok (.aload_n 0, 1) := by decide +kernel
theorem dX4_record_1 : decode cX4_record 1 = .ok (.iload_n 1, 1) := by decide +kernel
theorem dX4_record_2 : decode cX4_record 2 = .ok (.invokevirtual 50, 3) := by decide +kernel
theorem dX4_record_5 : decode cX4_record 5 = .ok (.astore 6, 2) := by decide +kernel
theorem dX4_record_7 : decode cX4_record 7 = .ok (.aload 6, 2) := by decide +kernel
theorem dX4_record_9 : decode cX4_record 9 = .ok (.ifnull 44, 3) := by decide +kernel
theorem dX4_record_12 : decode cX4_record 12 = .ok (.iload_n 2, 1) := by decide +kernel
theorem dX4_record_13 : decode cX4_record 13 = .ok (.iconst 0, 1) := by decide +kernel
theorem dX4_record_14 : decode cX4_record 14 = .ok (.sipush 9999, 3) := by decide +kernel
theorem dX4_record_17 : decode cX4_record 17 = .ok (.invokestatic 39, 3) := by decide +kernel
theorem dX4_record_20 : decode cX4_record 20 = .ok (.ifCond .eq 33, 3) := by decide +kernel
theorem dX4_record_23 : decode cX4_record 23 = .ok (.iload_n 3, 1) := by decide +kernel
theorem dX4_record_24 : decode cX4_record 24 = .ok (.invokestatic 54, 3) := by decide +kernel
theorem dX4_record_27 : decode cX4_record 27 = .ok (.ifCond .eq 26, 3) := by decide +kernel
theorem dX4_record_30 : decode cX4_record 30 = .ok (.iload 4, 2) := by decide +kernel
theorem dX4_record_32 : decode cX4_record 32 = .ok (.iconst 0, 1) := by decide +kernel
theorem dX4_record_33 : decode cX4_record 33 = .ok (.ldc 58, 2) := by decide +kernel
theorem dX4_record_35 : decode cX4_record 35 = .ok (.invokestatic 39, 3) := by decide +kernel
theorem dX4_record_38 : decode cX4_record 38 = .ok (.ifCond .eq 15, 3) := by decide +kernel
theorem dX4_record_41 : decode cX4_record 41 = .ok (.iload 5, 2) := by decide +kernel
theorem dX4_record_43 : decode cX4_record 43 = .ok (.iconst 0, 1) := by decide +kernel
theorem dX4_record_44 : decode cX4_record 44 = .ok (.sipush 10000, 3) := by decide +kernel
theorem dX4_record_47 : decode cX4_record 47 = .ok (.invokestatic 39, 3) := by decide +kernel
theorem dX4_record_50 : decode cX4_record 50 = .ok (.ifCond .ne 13, 3) := by decide +kernel
theorem dX4_record_53 : decode cX4_record 53 = .ok (.new 43, 3) := by decide +kernel
theorem dX4_record_56 : decode cX4_record 56 = .ok (.dup, 1) := by decide +kernel
theorem dX4_record_57 : decode cX4_record 57 = .ok (.ldc 59, 2) := by decide +kernel
theorem dX4_record_59 : decode cX4_record 59 = .ok (.invokespecial 47, 3) := by decide +kernel
theorem dX4_record_62 : decode cX4_record 62 = .ok (.athrow, 1) := by decide +kernel
theorem dX4_record_63 : decode cX4_record 63 = .ok (.aload 6, 2) := by decide +kernel
theorem dX4_record_65 : decode cX4_record 65 = .ok (.iload_n 2, 1) := by decide +kernel
theorem dX4_record_66 : decode cX4_record 66 = .ok (.invokevirtual 61, 3) := by decide +kernel
theorem dX4_record_69 : decode cX4_record 69 = .ok (.ifCond .eq 16, 3) := by decide +kernel
theorem dX4_record_72 : decode cX4_record 72 = .ok (.aload 6, 2) := by decide +kernel
theorem dX4_record_74 : decode cX4_record 74 = .ok (.dup, 1) := by decide +kernel
theorem dX4_record_75 : decode cX4_record 75 = .ok (.getfield 64, 3) := by decide +kernel
theorem dX4_record_78 : decode cX4_record 78 = .ok (.iconst 1, 1) := by decide +kernel
theorem dX4_record_79 : decode cX4_record 79 = .ok (.iadd, 1) := by decide +kernel
theorem dX4_record_80 : decode cX4_record 80 = .ok (.putfield 64, 3) := by decide +kernel
theorem dX4_record_83 : decode cX4_record 83 = .ok (.iconst (-1), 1) := by decide +kernel
theorem dX4_record_84 : decode cX4_record 84 = .ok (.ireturn, 1) := by decide +kernel
theorem dX4_record_85 : decode cX4_record 85 = .ok (.aload_n 0, 1) := by decide +kernel
theorem dX4_record_86 : decode cX4_record 86 = .ok (.iload_n 1, 1) := by decide +kernel
theorem dX4_record_87 : decode cX4_record 87 = .ok (.iload_n 3, 1) := by decide +kernel
theorem dX4_record_88 : decode cX4_record 88 = .ok (.iload 4, 2) := by decide +kernel
theorem dX4_record_90 : decode cX4_record 90 = .ok (.iload 5, 2) := by decide +kernel
theorem dX4_record_92 : decode cX4_record 92 = .ok (.invokevirtual 67, 3) := by decide +kernel
theorem dX4_record_95 : decode cX4_record 95 = .ok (.astore 7, 2) := by decide +kernel
theorem dX4_record_97 : decode cX4_record 97 = .ok (.aload 7, 2) := by decide +kernel
theorem dX4_record_99 : decode cX4_record 99 = .ok (.ifnonnull 14, 3) := by decide +kernel
theorem dX4_record_102 : decode cX4_record 102 = .ok (.aload_n 0, 1) := by decide +kernel
theorem dX4_record_103 : decode cX4_record 103 = .ok (.iload_n 3, 1) := by decide +kernel
theorem dX4_record_104 : decode cX4_record 104 = .ok (.iload 4, 2) := by decide +kernel
theorem dX4_record_106 : decode cX4_record 106 = .ok (.iload 5, 2) := by decide +kernel
theorem dX4_record_108 : decode cX4_record 108 = .ok (.invokevirtual 71, 3) := by decide +kernel
theorem dX4_record_111 : decode cX4_record 111 = .ok (.astore 7, 2) := by decide +kernel
theorem dX4_record_113 : decode cX4_record 113 = .ok (.aload 7, 2) := by decide +kernel
theorem dX4_record_115 : decode cX4_record 115 = .ok (.ifnonnull 13, 3) := by decide +kernel
theorem dX4_record_118 : decode cX4_record 118 = .ok (.new 75, 3) := by decide +kernel
theorem dX4_record_121 : decode cX4_record 121 = .ok (.dup, 1) := by decide +kernel
theorem dX4_record_122 : decode cX4_record 122 = .ok (.ldc 77, 2) := by decide +kernel
theorem dX4_record_124 : decode cX4_record 124 = .ok (.invokespecial 79, 3) := by decide +kernel
theorem dX4_record_127 : decode cX4_record 127 = .ok (.athrow, 1) := by decide +kernel
theorem dX4_record_128 : decode cX4_record 128 = .ok (.aload 6, 2) := by decide +kernel
theorem dX4_record_130 : decode cX4_record 130 = .ok (.iload_n 2, 1) := by decide +kernel
theorem dX4_record_131 : decode cX4_record 131 = .ok (.invokevirtual 80, 3) := by decide +kernel
theorem dX4_record_134 : decode cX4_record 134 = .ok (.aload 7, 2) := by decide +kernel
theorem dX4_record_136 : decode cX4_record 136 = .ok (.iload_n 1, 1) := by decide +kernel
theorem dX4_record_137 : decode cX4_record 137 = .ok (.iload 5, 2) := by decide +kernel
theorem dX4_record_139 : decode cX4_record 139 = .ok (.invokevirtual 84, 3) := by decide +kernel
theorem dX4_record_142 : decode cX4_record 142 = .ok (.aload 7, 2) := by decide +kernel
theorem dX4_record_144 : decode cX4_record 144 = .ok (.getfield 88, 3) := by decide +kernel
theorem dX4_record_147 : decode cX4_record 147 = .ok (.ireturn, 1) := by decide +kernel
set_option maxRecDepth 20000 in
theorem ggX4_gaps_X4_sourceAt : GoodIn wsX4_gaps wsX4_sourceAt := goodIn_r _ [7, 8, 17, 18, 19, 20, 21, 22, 23, 24] (by decide +kernel) (by decide +kernel)
set_option maxRecDepth 20000 in
theorem gX4_gaps_X4_sourceAt : GoodIn wsX4_gaps (wsV RX4 50 RX4 yX4_sourceAt wsX4_sourceAt) := goodIn_app (goodIn_of _ (by decide +kernel)) ggX4_gaps_X4_sourceAt
set_option maxRecDepth 20000 in
theorem ggX4_gaps_X3_missing : GoodIn wsX4_gaps wsX3_missing := goodIn_r _ [13, 14, 15, 16, 25, 26, 27, 28, 29] (by decide +kernel) (by decide +kernel)
set_option maxRecDepth 20000 in
theorem gX4_gaps_X3_missing : GoodIn wsX4_gaps (wsV RX4 93 RX3 yX3_missing wsX3_missing) := goodIn_app (goodIn_of _ (by decide +kernel)) ggX4_gaps_X3_missing
theorem dX4_gaps_0 : decode cX4_gaps 0 = .ok (.aload_n 0, 1) := by decide +kernel
theorem dX4_gaps_1 : decode cX4_gaps 1 = .ok (.iload_n 1, 1) := by decide +kernel
theorem dX4_gaps_2 : decode cX4_gaps 2 = .ok (.invokevirtual 50, 3) := by decide +kernel
theorem dX4_gaps_5 : decode cX4_gaps 5 = .ok (.astore_n 2, 1) := by decide +kernel
theorem dX4_gaps_6 : decode cX4_gaps 6 = .ok (.aload_n 2, 1) := by decide +kernel
theorem dX4_gaps_7 : decode cX4_gaps 7 = .ok (.ifnonnull 13, 3) := by decide +kernel
theorem dX4_gaps_10 : decode cX4_gaps 10 = .ok (.new 43, 3) := by decide +kernel
theorem dX4_gaps_13 : decode cX4_gaps 13 = .ok (.dup, 1) := by decide +kernel
theorem dX4_gaps_14 : decode cX4_gaps 14 = .ok (.ldc 91, 2) := by decide +kernel
theorem dX4_gaps_16 : decode cX4_gaps 16 = .ok (.invokespecial 47, 3) := by decide +kernel
theorem dX4_gaps_19 : decode cX4_gaps 19 = .ok (.athrow, 1) := by decide +kernel
theorem dX4_gaps_20 : decode cX4_gaps 20 = .ok (.aload_n 2, 1) := by decide +kernel
theorem dX4_gaps_21 : decode cX4_gaps 21 = .ok (.invokevirtual 93, 3) := by decide +kernel
theorem dX4_gaps_24 : decode cX4_gaps 24 = .ok (.ireturn, 1) := by decide +kernel
set_option maxRecDepth 20000 in
theorem ggX4_doubles_X4_sourceAt : GoodIn wsX4_doubles wsX4_sourceAt := goodIn_r _ [8, 9, 15, 16, 17, 18, 19, 20, 21, 22] (by decide +kernel) (by decide +kernel)
set_option maxRecDepth 20000 in
theorem gX4_doubles_X4_sourceAt : GoodIn wsX4_doubles (wsV RX4 50 RX4 yX4_sourceAt wsX4_sourceAt) := goodIn_app (goodIn_of _ (by decide +kernel)) ggX4_doubles_X4_sourceAt
theorem dX4_doubles_0 : decode cX4_doubles 0 = .ok (.aload_n 0, 1) := by decide +kernel
theorem dX4_doubles_1 : decode cX4_doubles 1 = .ok (.iload_n 1, 1) := by decide +kernel
theorem dX4_doubles_2 : decode cX4_doubles 2 = .ok (.invokevirtual 50, 3) := by decide +kernel
theorem dX4_doubles_5 : decode cX4_doubles 5 = .ok (.astore_n 2, 1) := by decide +kernel
theorem dX4_doubles_6 : decode cX4_doubles 6 = .ok (.aload_n 2, 1) := by decide +kernel
theorem dX4_doubles_7 : decode cX4_doubles 7 = .ok (.ifnonnull 13, 3) := by decide +kernel
theorem dX4_doubles_10 : decode cX4_doubles 10 = .ok (.new 43, 3) := by decide +kernel
theorem dX4_doubles_13 : decode cX4_doubles 13 = .ok (.dup, 1) := by decide +kernel
theorem dX4_doubles_14 : decode cX4_doubles 14 = .ok (.ldc 91, 2) := by decide +kernel
theorem dX4_doubles_16 : decode cX4_doubles 16 = .ok (.invokespecial 47, 3) := by decide +kernel
theorem dX4_doubles_19 : decode cX4_doubles 19 = .ok (.athrow, 1) := by decide +kernel
theorem dX4_doubles_20 : decode cX4_doubles 20 = .ok (.aload_n 2, 1) := by decide +kernel
theorem dX4_doubles_21 : decode cX4_doubles 21 = .ok (.getfield 64, 3) := by decide +kernel
theorem dX4_doubles_24 : decode cX4_doubles 24 = .ok (.ireturn, 1) := by decide +kernel
theorem dX4_calls_0 : decode cX4_calls 0 = .ok (.aload_n 0, 1) := by decide +kernel
theorem dX4_calls_1 : decode cX4_calls 1 = .ok (.getfield 97, 3) := by decide +kernel
theorem dX4_calls_4 : decode cX4_calls 4 = .ok (.ireturn, 1) := by decide +kernel
set_option maxRecDepth 20000 in
theorem ggX4_legs_X4_callAt : GoodIn wsX4_legs wsX4_callAt := goodIn_r _ [8, 9, 18, 19, 20, 21, 22, 23, 24, 25] (by decide +kernel) (by decide +kernel)
set_option maxRecDepth 20000 in
theorem gX4_legs_X4_callAt : GoodIn wsX4_legs (wsV RX4 100 RX4 yX4_callAt wsX4_callAt) := goodIn_app (goodIn_of _ (by decide +kernel)) ggX4_legs_X4_callAt
theorem dX4_legs_0 : decode cX4_legs 0 = .ok (.aload_n 0, 1) := by decide +kernel
theorem dX4_legs_1 : decode cX4_legs 1 = .ok (.iload_n 1, 1) := by decide +kernel
theorem dX4_legs_2 : decode cX4_legs 2 = .ok (.invokevirtual 100, 3) := by decide +kernel
theorem dX4_legs_5 : decode cX4_legs 5 = .ok (.astore_n 2, 1) := by decide +kernel
theorem dX4_legs_6 : decode cX4_legs 6 = .ok (.aload_n 2, 1) := by decide +kernel
theorem dX4_legs_7 : decode cX4_legs 7 = .ok (.ifnonnull 13, 3) := by decide +kernel
theorem dX4_legs_10 : decode cX4_legs 10 = .ok (.new 104, 3) := by decide +kernel
theorem dX4_legs_13 : decode cX4_legs 13 = .ok (.dup, 1) := by decide +kernel
theorem dX4_legs_14 : decode cX4_legs 14 = .ok (.ldc 106, 2) := by decide +kernel
theorem dX4_legs_16 : decode cX4_legs 16 = .ok (.invokespecial 108, 3) := by decide +kernel
theorem dX4_legs_19 : decode cX4_legs 19 = .ok (.athrow, 1) := by decide +kernel
theorem dX4_legs_20 : decode cX4_legs 20 = .ok (.aload_n 2, 1) := by decide +kernel
theorem dX4_legs_21 : decode cX4_legs 21 = .ok (.getfield 109, 3) := by decide +kernel
theorem dX4_legs_24 : decode cX4_legs 24 = .ok (.ireturn, 1) := by decide +kernel
set_option maxRecDepth 20000 in
theorem ggX4_length_X4_callAt : GoodIn wsX4_length wsX4_callAt := goodIn_r _ [8, 9, 18, 19, 20, 21, 22, 23, 24, 25] (by decide +kernel) (by decide +kernel)
set_option maxRecDepth 20000 in
theorem gX4_length_X4_callAt : GoodIn wsX4_length (wsV RX4 100 RX4 yX4_callAt wsX4_callAt) := goodIn_app (goodIn_of _ (by decide +kernel)) ggX4_length_X4_callAt
theorem dX4_length_0 : decode cX4_length 0 = .ok (.aload_n 0, 1) := by decide +kernel
theorem dX4_length_1 : decode cX4_length 1 = .ok (.iload_n 1, 1) := by decide +kernel
theorem dX4_length_2 : decode cX4_length 2 = .ok (.invokevirtual 100, 3) := by decide +kernel
theorem dX4_length_5 : decode cX4_length 5 = .ok (.astore_n 2, 1) := by decide +kernel
theorem dX4_length_6 : decode cX4_length 6 = .ok (.aload_n 2, 1) := by decide +kernel
theorem dX4_length_7 : decode cX4_length 7 = .ok (.ifnonnull 13, 3) := by decide +kernel
theorem dX4_length_10 : decode cX4_length 10 = .ok (.new 104, 3) := by decide +kernel
theorem dX4_length_13 : decode cX4_length 13 = .ok (.dup, 1) := by decide +kernel
theorem dX4_length_14 : decode cX4_length 14 = .ok (.ldc 106, 2) := by decide +kernel
theorem dX4_length_16 : decode cX4_length 16 = .ok (.invokespecial 108, 3) := by decide +kernel
theorem dX4_length_19 : decode cX4_length 19 = .ok (.athrow, 1) := by decide +kernel
theorem dX4_length_20 : decode cX4_length 20 = .ok (.aload_n 2, 1) := by decide +kernel
theorem dX4_length_21 : decode cX4_length 21 = .ok (.getfield 112, 3) := by decide +kernel
theorem dX4_length_24 : decode cX4_length 24 = .ok (.ireturn, 1) := by decide +kernel
set_option maxRecDepth 20000 in
theorem ggX4_addRate_X4_isPrefix : GoodIn wsX4_addRate wsX4_isPrefix := goodIn_r _ [13, 14, 15, 16, 12, 17] (by decide +kernel) (by decide +kernel)
set_option maxRecDepth 20000 in
theorem gX4_addRate_X4_isPrefix : GoodIn wsX4_addRate (va_wsS RX4 115 yX4_isPrefix wsX4_isPrefix) := goodIn_app (goodIn_of _ (by decide +kernel)) ggX4_addRate_X4_isPrefix
set_option maxRecDepth 20000 in
theorem ggX4_addRate_X4_isDay : GoodIn wsX4_addRate wsX4_isDay := goodIn_r _ [20, 15, 16, 12, 17] (by decide +kernel) (by decide +kernel)
set_option maxRecDepth 20000 in
theorem gX4_addRate_X4_isDay : GoodIn wsX4_addRate (va_wsS RX4 118 yX4_isDay wsX4_isDay) := goodIn_app (goodIn_of _ (by decide +kernel)) ggX4_addRate_X4_isDay
set_option maxRecDepth 20000 in
theorem ggX4_addRate_X4_within : GoodIn wsX4_addRate wsX4_within := goodIn_r _ [17] (by decide +kernel) (by decide +kernel)
set_option maxRecDepth 20000 in
theorem gX4_addRate_X4_within : GoodIn wsX4_addRate (va_wsS RX4 39 yX4_within wsX4_within) := goodIn_app (goodIn_of _ (by decide +kernel)) ggX4_addRate_X4_within
set_option maxRecDepth 20000 in
theorem ggX4_addRate_X2_init : GoodIn wsX4_addRate wsX2_init := goodIn_r _ [23, 24, 25, 26, 27, 28, 29, 30, 31, 32, 33, 42, 43, 44, 45, 46, 47, 48] (by decide +kernel) (by decide +kernel)
set_option maxRecDepth 20000 in
theorem gX4_addRate_X2_init : GoodIn wsX4_addRate (wsX2_init) := ggX4_addRate_X2_init
theorem dX4_addRate_0 : decode cX4_addRate 0 = .ok (.iload_n 1, 1) := by decide +kernel
theorem dX4_addRate_1 : decode cX4_addRate 1 = .ok (.invokestatic 115, 3) := by decide +kernel
theorem dX4_addRate_4 : decode cX4_addRate 4 = .ok (.ifCond .eq 55, 3) := by decide +kernel
theorem dX4_addRate_7 : decode cX4_addRate 7 = .ok (.iload_n 2, 1) := by decide +kernel
theorem dX4_addRate_8 : decode cX4_addRate 8 = .ok (.invokestatic 118, 3) := by decide +kernel
theorem dX4_addRate_11 : decode cX4_addRate 11 = .ok (.ifCond .eq 48, 3) := by decide +kernel
theorem dX4_addRate_14 : decode cX4_addRate 14 = .ok (.iload_n 3, 1) := by decide +kernel
theorem dX4_addRate_15 : decode cX4_addRate 15 = .ok (.iconst 0, 1) := by decide +kernel
theorem dX4_addRate_16 : decode cX4_addRate 16 = .ok (.sipush 10000, 3) := by decide +kernel
theorem dX4_addRate_19 : decode cX4_addRate 19 = .ok (.invokestatic 39, 3) := by decide +kernel
theorem dX4_addRate_22 : decode cX4_addRate 22 = .ok (.ifCond .eq 37, 3) := by decide +kernel
theorem dX4_addRate_25 : decode cX4_addRate 25 = .ok (.iload 4, 2) := by decide +kernel
theorem dX4_addRate_27 : decode cX4_addRate 27 = .ok (.iconst 1, 1) := by decide +kernel
theorem dX4_addRate_28 : decode cX4_addRate 28 = .ok (.bipush 60, 2) := by decide +kernel
theorem dX4_addRate_30 : decode cX4_addRate 30 = .ok (.invokestatic 39, 3) := by decide +kernel
theorem dX4_addRate_33 : decode cX4_addRate 33 = .ok (.ifCond .eq 26, 3) := by decide +kernel
theorem dX4_addRate_36 : decode cX4_addRate 36 = .ok (.iload 5, 2) := by decide +kernel
theorem dX4_addRate_38 : decode cX4_addRate 38 = .ok (.iconst 0, 1) := by decide +kernel
theorem dX4_addRate_39 : decode cX4_addRate 39 = .ok (.bipush 120, 2) := by decide +kernel
theorem dX4_addRate_41 : decode cX4_addRate 41 = .ok (.invokestatic 39, 3) := by decide +kernel
theorem dX4_addRate_44 : decode cX4_addRate 44 = .ok (.ifCond .eq 15, 3) := by decide +kernel
theorem dX4_addRate_47 : decode cX4_addRate 47 = .ok (.iload 6, 2) := by decide +kernel
theorem dX4_addRate_49 : decode cX4_addRate 49 = .ok (.iconst 0, 1) := by decide +kernel
theorem dX4_addRate_50 : decode cX4_addRate 50 = .ok (.sipush 1000, 3) := by decide +kernel
theorem dX4_addRate_53 : decode cX4_addRate 53 = .ok (.invokestatic 39, 3) := by decide +kernel
theorem dX4_addRate_56 : decode cX4_addRate 56 = .ok (.ifCond .ne 13, 3) := by decide +kernel
theorem dX4_addRate_59 : decode cX4_addRate 59 = .ok (.new 43, 3) := by decide +kernel
theorem dX4_addRate_62 : decode cX4_addRate 62 = .ok (.dup, 1) := by decide +kernel
theorem dX4_addRate_63 : decode cX4_addRate 63 = .ok (.ldc 121, 2) := by decide +kernel
theorem dX4_addRate_65 : decode cX4_addRate 65 = .ok (.invokespecial 47, 3) := by decide +kernel
theorem dX4_addRate_68 : decode cX4_addRate 68 = .ok (.athrow, 1) := by decide +kernel
theorem dX4_addRate_69 : decode cX4_addRate 69 = .ok (.aload_n 0, 1) := by decide +kernel
theorem dX4_addRate_70 : decode cX4_addRate 70 = .ok (.getfield 123, 3) := by decide +kernel
theorem dX4_addRate_73 : decode cX4_addRate 73 = .ok (.istore 7, 2) := by decide +kernel
theorem dX4_addRate_75 : decode cX4_addRate 75 = .ok (.iload 7, 2) := by decide +kernel
theorem dX4_addRate_77 : decode cX4_addRate 77 = .ok (.aload_n 0, 1) := by decide +kernel
theorem dX4_addRate_78 : decode cX4_addRate 78 = .ok (.getfield 27, 3) := by decide +kernel
theorem dX4_addRate_81 : decode cX4_addRate 81 = .ok (.arraylength, 1) := by decide +kernel
theorem dX4_addRate_82 : decode cX4_addRate 82 = .ok (.if_icmp .lt 13, 3) := by decide +kernel
theorem dX4_addRate_85 : decode cX4_addRate 85 = .ok (.new 75, 3) := by decide +kernel
theorem dX4_addRate_88 : decode cX4_addRate 88 = .ok (.dup, 1) := by decide +kernel
theorem dX4_addRate_89 : decode cX4_addRate 89 = .ok (.ldc 126, 2) := by decide +kernel
theorem dX4_addRate_91 : decode cX4_addRate 91 = .ok (.invokespecial 79, 3) := by decide +kernel
theorem dX4_addRate_94 : decode cX4_addRate 94 = .ok (.athrow, 1) := by decide +kernel
theorem dX4_addRate_95 : decode cX4_addRate 95 = .ok (.aload_n 0, 1) := by decide +kernel
theorem dX4_addRate_96 : decode cX4_addRate 96 = .ok (.getfield 27, 3) := by decide +kernel
theorem dX4_addRate_99 : decode cX4_addRate 99 = .ok (.iload 7, 2) := by decide +kernel
theorem dX4_addRate_101 : decode cX4_addRate 101 = .ok (.new 25, 3) := by decide +kernel
theorem dX4_addRate_104 : decode cX4_addRate 104 = .ok (.dup, 1) := by decide +kernel
theorem dX4_addRate_105 : decode cX4_addRate 105 = .ok (.iload 7, 2) := by decide +kernel
theorem dX4_addRate_107 : decode cX4_addRate 107 = .ok (.iload_n 1, 1) := by decide +kernel
theorem dX4_addRate_108 : decode cX4_addRate 108 = .ok (.iload_n 2, 1) := by decide +kernel
theorem dX4_addRate_109 : decode cX4_addRate 109 = .ok (.iload_n 3, 1) := by decide +kernel
theorem dX4_addRate_110 : decode cX4_addRate 110 = .ok (.iload 4, 2) := by decide +kernel
theorem dX4_addRate_112 : decode cX4_addRate 112 = .ok (.iload 5, 2) := by decide +kernel
theorem dX4_addRate_114 : decode cX4_addRate 114 = .ok (.iload 6, 2) := by decide +kernel
theorem dX4_addRate_116 : decode cX4_addRate 116 = .ok (.invokespecial 128, 3) := by decide +kernel
theorem dX4_addRate_119 : decode cX4_addRate 119 = .ok (.aastore, 1) := by decide +kernel
theorem dX4_addRate_120 : decode cX4_addRate 120 = .ok (.aload_n 0, 1) := by decide +kernel
theorem dX4_addRate_121 : decode cX4_addRate 121 = .ok (.dup, 1) := by decide +kernel
theorem dX4_addRate_122 : decode cX4_addRate 122 = .ok (.getfield 123, 3) := by decide +kernel
theorem dX4_addRate_125 : decode cX4_addRate 125 = .ok (.iconst 1, 1) := by decide +kernel
theorem dX4_addRate_126 : decode cX4_addRate 126 = .ok (.iadd, 1) := by decide +kernel
theorem dX4_addRate_127 : decode cX4_addRate 127 = .ok (.putfield 123, 3) := by decide +kernel
theorem dX4_addRate_130 : decode cX4_addRate 130 = .ok (.iload 7, 2) := by decide +kernel
theorem dX4_addRate_132 : decode cX4_addRate 132 = .ok (.ireturn, 1) := by decide +kernel
set_option maxRecDepth 20000 in
theorem ggX4_rateFor_X4_isNumber : GoodIn wsX4_rateFor wsX4_isNumber := goodIn_r _ [9, 10, 11, 12, 8, 13] (by decide +kernel) (by decide +kernel)
set_option maxRecDepth 20000 in
theorem gX4_rateFor_X4_isNumber : GoodIn wsX4_rateFor (va_wsS RX4 54 yX4_isNumber wsX4_isNumber) := goodIn_app (goodIn_of _ (by decide +kernel)) ggX4_rateFor_X4_isNumber
set_option maxRecDepth 20000 in
theorem ggX4_rateFor_X4_isDay : GoodIn wsX4_rateFor wsX4_isDay := goodIn_r _ [16, 11, 12, 8, 13] (by decide +kernel) (by decide +kernel)
set_option maxRecDepth 20000 in
theorem gX4_rateFor_X4_isDay : GoodIn wsX4_rateFor (va_wsS RX4 118 yX4_isDay wsX4_isDay) := goodIn_app (goodIn_of _ (by decide +kernel)) ggX4_rateFor_X4_isDay
set_option maxRecDepth 20000 in
theorem ggX4_rateFor_X4_rateInForce : GoodIn wsX4_rateFor wsX4_rateInForce := goodIn_r _ [20, 21, 22, 23, 24, 25, 8, 26, 27, 28, 29, 30, 31, 32, 33, 34, 42, 43, 44, 45, 46, 47, 48, 49, 35, 36, 37, 38, 39, 40, 41] (by decide +kernel) (by decide +kernel)
set_option maxRecDepth 20000 in
theorem gX4_rateFor_X4_rateInForce : GoodIn wsX4_rateFor (wsV RX4 133 RX4 yX4_rateInForce wsX4_rateInForce) := goodIn_app (goodIn_of _ (by decide +kernel)) ggX4_rateFor_X4_rateInForce
theorem dX4_rateFor_0 : decode cX4_rateFor 0 = .ok (.iload_n 1, 1) := by decide +kernel
theorem dX4_rateFor_1 : decode cX4_rateFor 1 = .ok (.invokestatic 54, 3) := by decide +kernel
theorem dX4_rateFor_4 : decode cX4_rateFor 4 = .ok (.ifCond .eq 10, 3) := by decide +kernel
theorem dX4_rateFor_7 : decode cX4_rateFor 7 = .ok (.iload_n 2, 1) := by decide +kernel
theorem dX4_rateFor_8 : decode cX4_rateFor 8 = .ok (.invokestatic 118, 3) := by decide +kernel
theorem dX4_rateFor_11 : decode cX4_rateFor 11 = .ok (.ifCond .ne 13, 3) := by decide +kernel
theorem dX4_rateFor_14 : decode cX4_rateFor 14 = .ok (.new 43, 3) := by decide +kernel
theorem dX4_rateFor_17 : decode cX4_rateFor 17 = .ok (.dup, 1) := by decide +kernel
theorem dX4_rateFor_18 : decode cX4_rateFor 18 = .ok (.ldc 131, 2) := by decide +kernel
theorem dX4_rateFor_20 : decode cX4_rateFor 20 = .ok (.invokespecial 47, 3) := by decide +kernel
theorem dX4_rateFor_23 : decode cX4_rateFor 23 = .ok (.athrow, 1) := by decide +kernel
theorem dX4_rateFor_24 : decode cX4_rateFor 24 = .ok (.aload_n 0, 1) := by decide +kernel
theorem dX4_rateFor_25 : decode cX4_rateFor 25 = .ok (.iload_n 1, 1) := by decide +kernel
theorem dX4_rateFor_26 : decode cX4_rateFor 26 = .ok (.iload_n 2, 1) := by decide +kernel
theorem dX4_rateFor_27 : decode cX4_rateFor 27 = .ok (.invokevirtual 133, 3) := by decide +kernel
theorem dX4_rateFor_30 : decode cX4_rateFor 30 = .ok (.astore_n 3, 1) := by decide +kernel
theorem dX4_rateFor_31 : decode cX4_rateFor 31 = .ok (.aload_n 3, 1) := by decide +kernel
theorem dX4_rateFor_32 : decode cX4_rateFor 32 = .ok (.ifnonnull 13, 3) := by decide +kernel
theorem dX4_rateFor_35 : decode cX4_rateFor 35 = .ok (.new 137, 3) := by decide +kernel
theorem dX4_rateFor_38 : decode cX4_rateFor 38 = .ok (.dup, 1) := by decide +kernel
theorem dX4_rateFor_39 : decode cX4_rateFor 39 = .ok (.ldc 139, 2) := by decide +kernel
theorem dX4_rateFor_41 : decode cX4_rateFor 41 = .ok (.invokespecial 141, 3) := by decide +kernel
theorem dX4_rateFor_44 : decode cX4_rateFor 44 = .ok (.athrow, 1) := by decide +kernel
theorem dX4_rateFor_45 : decode cX4_rateFor 45 = .ok (.aload_n 3, 1) := by decide +kernel
theorem dX4_rateFor_46 : decode cX4_rateFor 46 = .ok (.getfield 142, 3) := by decide +kernel
theorem dX4_rateFor_49 : decode cX4_rateFor 49 = .ok (.ireturn, 1) := by decide +kernel
set_option maxRecDepth 20000 in
theorem ggX4_charge_X4_callAt : GoodIn wsX4_charge wsX4_callAt := goodIn_r _ [9, 10, 56, 57, 58, 59, 60, 61, 62, 63] (by decide +kernel) (by decide +kernel)
set_option maxRecDepth 20000 in
theorem gX4_charge_X4_callAt : GoodIn wsX4_charge (wsV RX4 100 RX4 yX4_callAt wsX4_callAt) := goodIn_app (goodIn_of _ (by decide +kernel)) ggX4_charge_X4_callAt
set_option maxRecDepth 20000 in
theorem ggX4_charge_X4_chargeNow : GoodIn wsX4_charge wsX4_chargeNow := goodIn_r _ [14, 15, 16, 17, 18, 19, 20, 21, 22, 23, 24, 25, 8, 26, 27, 28, 29, 30, 31, 32, 33, 34, 35, 36, 37, 38, 39, 40, 41, 42, 43, 44, 45, 46, 47, 48, 49, 50, 51, 52, 53, 54, 55, 64, 65, 66, 67, 68, 69, 70, 71, 56, 57, 58, 59, 60, 61, 62, 63, 72, 73, 74, 75, 76, 77, 78] (by decide +kernel) (by decide +kernel)
set_option maxRecDepth 20000 in
theorem gX4_charge_X4_chargeNow : GoodIn wsX4_charge (wsV RX4 143 RX4 yX4_chargeNow wsX4_chargeNow) := goodIn_app (goodIn_of _ (by decide +kernel)) ggX4_charge_X4_chargeNow
theorem dX4_charge_0 : decode cX4_charge 0 = .ok (.aload_n 0, 1) := by decide +kernel
theorem dX4_charge_1 : decode cX4_charge 1 = .ok (.iload_n 1, 1) := by decide +kernel
theorem dX4_charge_2 : decode cX4_charge 2 = .ok (.invokevirtual 100, 3) := by decide +kernel
theorem dX4_charge_5 : decode cX4_charge 5 = .ok (.astore_n 2, 1) := by decide +kernel
theorem dX4_charge_6 : decode cX4_charge 6 = .ok (.aload_n 2, 1) := by decide +kernel
theorem dX4_charge_7 : decode cX4_charge 7 = .ok (.ifnonnull 13, 3) := by decide +kernel
theorem dX4_charge_10 : decode cX4_charge 10 = .ok (.new 104, 3) := by decide +kernel
theorem dX4_charge_13 : decode cX4_charge 13 = .ok (.dup, 1) := by decide +kernel
theorem dX4_charge_14 : decode cX4_charge 14 = .ok (.ldc 106, 2) := by decide +kernel
theorem dX4_charge_16 : decode cX4_charge 16 = .ok (.invokespecial 108, 3) := by decide +kernel
theorem dX4_charge_19 : decode cX4_charge 19 = .ok (.athrow, 1) := by decide +kernel
theorem dX4_charge_20 : decode cX4_charge 20 = .ok (.aload_n 0, 1) := by decide +kernel
theorem dX4_charge_21 : decode cX4_charge 21 = .ok (.aload_n 2, 1) := by decide +kernel
theorem dX4_charge_22 : decode cX4_charge 22 = .ok (.invokevirtual 143, 3) := by decide +kernel
theorem dX4_charge_25 : decode cX4_charge 25 = .ok (.istore_n 3, 1) := by decide +kernel
theorem dX4_charge_26 : decode cX4_charge 26 = .ok (.iload_n 3, 1) := by decide +kernel
theorem dX4_charge_27 : decode cX4_charge 27 = .ok (.iconst (-1), 1) := by decide +kernel
theorem dX4_charge_28 : decode cX4_charge 28 = .ok (.if_icmp .ne 13, 3) := by decide +kernel
theorem dX4_charge_31 : decode cX4_charge 31 = .ok (.new 137, 3) := by decide +kernel
theorem dX4_charge_34 : decode cX4_charge 34 = .ok (.dup, 1) := by decide +kernel
theorem dX4_charge_35 : decode cX4_charge 35 = .ok (.ldc 147, 2) := by decide +kernel
theorem dX4_charge_37 : decode cX4_charge 37 = .ok (.invokespecial 141, 3) := by decide +kernel
theorem dX4_charge_40 : decode cX4_charge 40 = .ok (.athrow, 1) := by decide +kernel
theorem dX4_charge_41 : decode cX4_charge 41 = .ok (.iload_n 3, 1) := by decide +kernel
theorem dX4_charge_42 : decode cX4_charge 42 = .ok (.ireturn, 1) := by decide +kernel
set_option maxRecDepth 20000 in
theorem ggX4_book_X0_isBooked : GoodIn wsX4_book wsX0_isBooked := goodIn_r _ [7, 8, 62, 63, 64, 65, 66, 67, 68, 69] (by decide +kernel) (by decide +kernel)
set_option maxRecDepth 20000 in
theorem gX4_book_X0_isBooked : GoodIn wsX4_book (wsV RX4 149 RX0 yX0_isBooked wsX0_isBooked) := goodIn_app (goodIn_of _ (by decide +kernel)) ggX4_book_X0_isBooked
set_option maxRecDepth 20000 in
theorem ggX4_book_X4_chargeNow : GoodIn wsX4_book wsX4_chargeNow := goodIn_r _ [13, 14, 15, 16, 17, 18, 6, 19, 20, 21, 22, 23, 12, 24, 25, 26, 27, 28, 29, 30, 31, 32, 33, 34, 35, 36, 37, 38, 39, 40, 41, 42, 43, 44, 45, 46, 47, 48, 49, 50, 51, 52, 53, 62, 63, 64, 65, 66, 67, 68, 69, 54, 55, 56, 57, 58, 59, 60, 61, 70, 71, 72, 73, 74, 75, 76] (by decide +kernel) (by decide +kernel)
set_option maxRecDepth 20000 in
theorem gX4_book_X4_chargeNow : GoodIn wsX4_book (wsV RX4 143 RX4 yX4_chargeNow wsX4_chargeNow) := goodIn_app (goodIn_of _ (by decide +kernel)) ggX4_book_X4_chargeNow
theorem dX4_book_0 : decode cX4_book 0 = .ok (.iconst 0, 1) := by decide +kernel
theorem dX4_book_1 : decode cX4_book 1 = .ok (.istore_n 1, 1) := by decide +kernel
theorem dX4_book_2 : decode cX4_book 2 = .ok (.aload_n 0, 1) := by decide +kernel
theorem dX4_book_3 : decode cX4_book 3 = .ok (.getfield 17, 3) := by decide +kernel
theorem dX4_book_6 : decode cX4_book 6 = .ok (.astore_n 2, 1) := by decide +kernel
theorem dX4_book_7 : decode cX4_book 7 = .ok (.aload_n 2, 1) := by decide +kernel
theorem dX4_book_8 : decode cX4_book 8 = .ok (.arraylength, 1) := by decide +kernel
theorem dX4_book_9 : decode cX4_book 9 = .ok (.istore_n 3, 1) := by decide +kernel
theorem dX4_book_10 : decode cX4_book 10 = .ok (.iconst 0, 1) := by decide +kernel
theorem dX4_book_11 : decode cX4_book 11 = .ok (.istore 4, 2) := by decide +kernel
theorem dX4_book_13 : decode cX4_book 13 = .ok (.iload 4, 2) := by decide +kernel
theorem dX4_book_15 : decode cX4_book 15 = .ok (.iload_n 3, 1) := by decide +kernel
theorem dX4_book_16 : decode cX4_book 16 = .ok (.if_icmp .ge 55, 3) := by decide +kernel
theorem dX4_book_19 : decode cX4_book 19 = .ok (.aload_n 2, 1) := by decide +kernel
theorem dX4_book_20 : decode cX4_book 20 = .ok (.iload 4, 2) := by decide +kernel
theorem dX4_book_22 : decode cX4_book 22 = .ok (.aaload, 1) := by decide +kernel
theorem dX4_book_23 : decode cX4_book 23 = .ok (.astore 5, 2) := by decide +kernel
theorem dX4_book_25 : decode cX4_book 25 = .ok (.aload 5, 2) := by decide +kernel
theorem dX4_book_27 : decode cX4_book 27 = .ok (.ifnull 38, 3) := by decide +kernel
theorem dX4_book_30 : decode cX4_book 30 = .ok (.aload 5, 2) := by decide +kernel
theorem dX4_book_32 : decode cX4_book 32 = .ok (.invokevirtual 149, 3) := by decide +kernel
theorem dX4_book_35 : decode cX4_book 35 = .ok (.ifCond .ne 30, 3) := by decide +kernel
theorem dX4_book_38 : decode cX4_book 38 = .ok (.aload 5, 2) := by decide +kernel
theorem dX4_book_40 : decode cX4_book 40 = .ok (.aload_n 0, 1) := by decide +kernel
theorem dX4_book_41 : decode cX4_book 41 = .ok (.aload 5, 2) := by decide +kernel
theorem dX4_book_43 : decode cX4_book 43 = .ok (.invokevirtual 143, 3) := by decide +kernel
theorem dX4_book_46 : decode cX4_book 46 = .ok (.putfield 153, 3) := by decide +kernel
theorem dX4_book_49 : decode cX4_book 49 = .ok (.iload_n 1, 1) := by decide +kernel
theorem dX4_book_50 : decode cX4_book 50 = .ok (.aload 5, 2) := by decide +kernel
theorem dX4_book_52 : decode cX4_book 52 = .ok (.invokevirtual 149, 3) := by decide +kernel
theorem dX4_book_55 : decode cX4_book 55 = .ok (.ifCond .eq 7, 3) := by decide +kernel
theorem dX4_book_58 : decode cX4_book 58 = .ok (.iconst 1, 1) := by decide +kernel
theorem dX4_book_59 : decode cX4_book 59 = .ok (.goto 4, 3) := by decide +kernel
theorem dX4_book_62 : decode cX4_book 62 = .ok (.iconst 0, 1) := by decide +kernel
theorem dX4_book_63 : decode cX4_book 63 = .ok (.iadd, 1) := by decide +kernel
theorem dX4_book_64 : decode cX4_book 64 = .ok (.istore_n 1, 1) := by decide +kernel
theorem dX4_book_65 : decode cX4_book 65 = .ok (.iinc 4 1, 3) := by decide +kernel
theorem dX4_book_68 : decode cX4_book 68 = .ok (.goto (-55), 3) := by decide +kernel
theorem dX4_book_71 : decode cX4_book 71 = .ok (.iload_n 1, 1) := by decide +kernel
theorem dX4_book_72 : decode cX4_book 72 = .ok (.ireturn, 1) := by decide +kernel
set_option maxRecDepth 20000 in
theorem ggX4_booked_X4_callAt : GoodIn wsX4_booked wsX4_callAt := goodIn_r _ [10, 11, 26, 27, 28, 29, 30, 31, 32, 33] (by decide +kernel) (by decide +kernel)
set_option maxRecDepth 20000 in
theorem gX4_booked_X4_callAt : GoodIn wsX4_booked (wsV RX4 100 RX4 yX4_callAt wsX4_callAt) := goodIn_app (goodIn_of _ (by decide +kernel)) ggX4_booked_X4_callAt
set_option maxRecDepth 20000 in
theorem ggX4_booked_X0_isBooked : GoodIn wsX4_booked wsX0_isBooked := goodIn_r _ [16, 17, 18, 19, 20, 21, 22, 23, 24, 25] (by decide +kernel) (by decide +kernel)
set_option maxRecDepth 20000 in
theorem gX4_booked_X0_isBooked : GoodIn wsX4_booked (wsV RX4 149 RX0 yX0_isBooked wsX0_isBooked) := goodIn_app (goodIn_of _ (by decide +kernel)) ggX4_booked_X0_isBooked
theorem dX4_booked_0 : decode cX4_booked 0 = .ok (.aload_n 0, 1) := by decide +kernel
theorem dX4_booked_1 : decode cX4_booked 1 = .ok (.iload_n 1, 1) := by decide +kernel
theorem dX4_booked_2 : decode cX4_booked 2 = .ok (.invokevirtual 100, 3) := by decide +kernel
theorem dX4_booked_5 : decode cX4_booked 5 = .ok (.astore_n 2, 1) := by decide +kernel
theorem dX4_booked_6 : decode cX4_booked 6 = .ok (.aload_n 2, 1) := by decide +kernel
theorem dX4_booked_7 : decode cX4_booked 7 = .ok (.ifnonnull 13, 3) := by decide +kernel
theorem dX4_booked_10 : decode cX4_booked 10 = .ok (.new 104, 3) := by decide +kernel
theorem dX4_booked_13 : decode cX4_booked 13 = .ok (.dup, 1) := by decide +kernel
theorem dX4_booked_14 : decode cX4_booked 14 = .ok (.ldc 106, 2) := by decide +kernel
theorem dX4_booked_16 : decode cX4_booked 16 = .ok (.invokespecial 108, 3) := by decide +kernel
theorem dX4_booked_19 : decode cX4_booked 19 = .ok (.athrow, 1) := by decide +kernel
theorem dX4_booked_20 : decode cX4_booked 20 = .ok (.aload_n 2, 1) := by decide +kernel
theorem dX4_booked_21 : decode cX4_booked 21 = .ok (.invokevirtual 149, 3) := by decide +kernel
theorem dX4_booked_24 : decode cX4_booked 24 = .ok (.ifCond .ne 13, 3) := by decide +kernel
theorem dX4_booked_27 : decode cX4_booked 27 = .ok (.new 137, 3) := by decide +kernel
theorem dX4_booked_30 : decode cX4_booked 30 = .ok (.dup, 1) := by decide +kernel
theorem dX4_booked_31 : decode cX4_booked 31 = .ok (.ldc 156, 2) := by decide +kernel
theorem dX4_booked_33 : decode cX4_booked 33 = .ok (.invokespecial 141, 3) := by decide +kernel
theorem dX4_booked_36 : decode cX4_booked 36 = .ok (.athrow, 1) := by decide +kernel
theorem dX4_booked_37 : decode cX4_booked 37 = .ok (.aload_n 2, 1) := by decide +kernel
theorem dX4_booked_38 : decode cX4_booked 38 = .ok (.getfield 153, 3) := by decide +kernel
theorem dX4_booked_41 : decode cX4_booked 41 = .ok (.ireturn, 1) := by decide +kernel
set_option maxRecDepth 20000 in
theorem ggX4_correct_X0_isBooked : GoodIn wsX4_correct wsX0_isBooked := goodIn_r _ [6, 7, 67, 68, 69, 70, 71, 72, 73, 74] (by decide +kernel) (by decide +kernel)
set_option maxRecDepth 20000 in
theorem gX4_correct_X0_isBooked : GoodIn wsX4_correct (wsV RX4 149 RX0 yX0_isBooked wsX0_isBooked) := goodIn_app (goodIn_of _ (by decide +kernel)) ggX4_correct_X0_isBooked
set_option maxRecDepth 20000 in
theorem ggX4_correct_X4_changeByCorrecting : GoodIn wsX4_correct wsX4_changeByCorrecting := goodIn_r _ [12, 13, 14, 15, 16, 17, 11, 18, 19, 20, 21, 22, 23, 5, 24, 25, 26, 27, 28, 29, 30, 31, 32, 33, 34, 35, 36, 37, 38, 39, 40, 41, 42, 43, 44, 45, 46, 47, 48, 49, 50, 51, 52, 53, 54, 55, 56, 57, 58, 67, 68, 69, 70, 71, 72, 73, 74, 59, 60, 61, 62, 63, 64, 65, 66, 75, 76, 77, 78, 79, 80, 81] (by decide +kernel) (by decide +kernel)
set_option maxRecDepth 20000 in
theorem gX4_correct_X4_changeByCorrecting : GoodIn wsX4_correct (wsV RX4 158 RX4 yX4_changeByCorrecting wsX4_changeByCorrecting) := goodIn_app (goodIn_of _ (by decide +kernel)) ggX4_correct_X4_changeByCorrecting
theorem dX4_correct_0 : decode cX4_correct 0 = .ok (.iconst 0, 1) := by decide +kernel
theorem dX4_correct_1 : decode cX4_correct 1 = .ok (.istore_n 1, 1) := by decide +kernel
theorem dX4_correct_2 : decode cX4_correct 2 = .ok (.aload_n 0, 1) := by decide +kernel
theorem dX4_correct_3 : decode cX4_correct 3 = .ok (.getfield 17, 3) := by decide +kernel
theorem dX4_correct_6 : decode cX4_correct 6 = .ok (.astore_n 2, 1) := by decide +kernel
theorem dX4_correct_7 : decode cX4_correct 7 = .ok (.aload_n 2, 1) := by decide +kernel
theorem dX4_correct_8 : decode cX4_correct 8 = .ok (.arraylength, 1) := by decide +kernel
theorem dX4_correct_9 : decode cX4_correct 9 = .ok (.istore_n 3, 1) := by decide +kernel
theorem dX4_correct_10 : decode cX4_correct 10 = .ok (.iconst 0, 1) := by decide +kernel
theorem dX4_correct_11 : decode cX4_correct 11 = .ok (.istore 4, 2) := by decide +kernel
theorem dX4_correct_13 : decode cX4_correct 13 = .ok (.iload 4, 2) := by decide +kernel
theorem dX4_correct_15 : decode cX4_correct 15 = .ok (.iload_n 3, 1) := by decide +kernel
theorem dX4_correct_16 : decode cX4_correct 16 = .ok (.if_icmp .ge 37, 3) := by decide +kernel
theorem dX4_correct_19 : decode cX4_correct 19 = .ok (.aload_n 2, 1) := by decide +kernel
theorem dX4_correct_20 : decode cX4_correct 20 = .ok (.iload 4, 2) := by decide +kernel
theorem dX4_correct_22 : decode cX4_correct 22 = .ok (.aaload, 1) := by decide +kernel
theorem dX4_correct_23 : decode cX4_correct 23 = .ok (.astore 5, 2) := by decide +kernel
theorem dX4_correct_25 : decode cX4_correct 25 = .ok (.aload 5, 2) := by decide +kernel
theorem dX4_correct_27 : decode cX4_correct 27 = .ok (.ifnull 20, 3) := by decide +kernel
theorem dX4_correct_30 : decode cX4_correct 30 = .ok (.aload 5, 2) := by decide +kernel
theorem dX4_correct_32 : decode cX4_correct 32 = .ok (.invokevirtual 149, 3) := by decide +kernel
theorem dX4_correct_35 : decode cX4_correct 35 = .ok (.ifCond .eq 12, 3) := by decide +kernel
theorem dX4_correct_38 : decode cX4_correct 38 = .ok (.iload_n 1, 1) := by decide +kernel
theorem dX4_correct_39 : decode cX4_correct 39 = .ok (.aload_n 0, 1) := by decide +kernel
theorem dX4_correct_40 : decode cX4_correct 40 = .ok (.aload 5, 2) := by decide +kernel
theorem dX4_correct_42 : decode cX4_correct 42 = .ok (.invokevirtual 158, 3) := by decide +kernel
theorem dX4_correct_45 : decode cX4_correct 45 = .ok (.iadd, 1) := by decide +kernel
theorem dX4_correct_46 : decode cX4_correct 46 = .ok (.istore_n 1, 1) := by decide +kernel
theorem dX4_correct_47 : decode cX4_correct 47 = .ok (.iinc 4 1, 3) := by decide +kernel
theorem dX4_correct_50 : decode cX4_correct 50 = .ok (.goto (-37), 3) := by decide +kernel
theorem dX4_correct_53 : decode cX4_correct 53 = .ok (.iload_n 1, 1) := by decide +kernel
theorem dX4_correct_54 : decode cX4_correct 54 = .ok (.ireturn, 1) := by decide +kernel
theorem dX4_corrections_0 : decode cX4_corrections 0 = .ok (.aload_n 0, 1) := by decide +kernel
theorem dX4_corrections_1 : decode cX4_corrections 1 = .ok (.getfield 161, 3) := by decide +kernel
theorem dX4_corrections_4 : decode cX4_corrections 4 = .ok (.ireturn, 1) := by decide +kernel
set_option maxRecDepth 20000 in
theorem ggX4_total_X4_isPrefix : GoodIn wsX4_total wsX4_isPrefix := goodIn_r _ [8, 9, 10, 11, 7, 12] (by decide +kernel) (by decide +kernel)
set_option maxRecDepth 20000 in
theorem gX4_total_X4_isPrefix : GoodIn wsX4_total (va_wsS RX4 115 yX4_isPrefix wsX4_isPrefix) := goodIn_app (goodIn_of _ (by decide +kernel)) ggX4_total_X4_isPrefix
set_option maxRecDepth 20000 in
theorem ggX4_total_X4_fits : GoodIn wsX4_total wsX4_fits := goodIn_r _ [15] (by decide +kernel) (by decide +kernel)
set_option maxRecDepth 20000 in
theorem gX4_total_X4_fits : GoodIn wsX4_total (va_wsS RX4 169 yX4_fits wsX4_fits) := goodIn_app (goodIn_of _ (by decide +kernel)) ggX4_total_X4_fits
set_option maxRecDepth 20000 in
theorem ggX4_total_X0_bookedOrZero : GoodIn wsX4_total wsX0_bookedOrZero := goodIn_r _ [20, 21, 22, 23, 24, 19, 25, 34, 35, 36, 37, 38, 39, 40, 41] (by decide +kernel) (by decide +kernel)
set_option maxRecDepth 20000 in
theorem gX4_total_X0_bookedOrZero : GoodIn wsX4_total (wsV RX4 173 RX0 yX0_bookedOrZero wsX0_bookedOrZero) := goodIn_app (goodIn_of _ (by decide +kernel)) ggX4_total_X0_bookedOrZero
theorem dX4_total_0 : decode cX4_total 0 = .ok (.iload_n 1, 1) := by decide +kernel
theorem dX4_total_1 : decode cX4_total 1 = .ok (.invokestatic 115, 3) := by decide +kernel
theorem dX4_total_4 : decode cX4_total 4 = .ok (.ifCond .ne 13, 3) := by decide +kernel
theorem dX4_total_7 : decode cX4_total 7 = .ok (.new 43, 3) := by decide +kernel
theorem dX4_total_10 : decode cX4_total 10 = .ok (.dup, 1) := by decide +kernel
theorem dX4_total_11 : decode cX4_total 11 = .ok (.ldc 164, 2) := by decide +kernel
theorem dX4_total_13 : decode cX4_total 13 = .ok (.invokespecial 47, 3) := by decide +kernel
theorem dX4_total_16 : decode cX4_total 16 = .ok (.athrow, 1) := by decide +kernel
theorem dX4_total_17 : decode cX4_total 17 = .ok (.iconst 0, 1) := by decide +kernel
theorem dX4_total_18 : decode cX4_total 18 = .ok (.istore_n 2, 1) := by decide +kernel
theorem dX4_total_19 : decode cX4_total 19 = .ok (.aload_n 0, 1) := by decide +kernel
theorem dX4_total_20 : decode cX4_total 20 = .ok (.getfield 17, 3) := by decide +kernel
theorem dX4_total_23 : decode cX4_total 23 = .ok (.astore_n 3, 1) := by decide +kernel
theorem dX4_total_24 : decode cX4_total 24 = .ok (.aload_n 3, 1) := by decide +kernel
theorem dX4_total_25 : decode cX4_total 25 = .ok (.arraylength, 1) := by decide +kernel
theorem dX4_total_26 : decode cX4_total 26 = .ok (.istore 4, 2) := by decide +kernel
theorem dX4_total_28 : decode cX4_total 28 = .ok (.iconst 0, 1) := by decide +kernel
theorem dX4_total_29 : decode cX4_total 29 = .ok (.istore 5, 2) := by decide +kernel
theorem dX4_total_31 : decode cX4_total 31 = .ok (.iload 5, 2) := by decide +kernel
theorem dX4_total_33 : decode cX4_total 33 = .ok (.iload 4, 2) := by decide +kernel
theorem dX4_total_35 : decode cX4_total 35 = .ok (.if_icmp .ge 40, 3) := by decide +kernel
theorem dX4_total_38 : decode cX4_total 38 = .ok (.aload_n 3, 1) := by decide +kernel
theorem dX4_total_39 : decode cX4_total 39 = .ok (.iload 5, 2) := by decide +kernel
theorem dX4_total_41 : decode cX4_total 41 = .ok (.aaload, 1) := by decide +kernel
theorem dX4_total_42 : decode cX4_total 42 = .ok (.astore 6, 2) := by decide +kernel
theorem dX4_total_44 : decode cX4_total 44 = .ok (.aload 6, 2) := by decide +kernel
theorem dX4_total_46 : decode cX4_total 46 = .ok (.ifnull 23, 3) := by decide +kernel
theorem dX4_total_49 : decode cX4_total 49 = .ok (.iload_n 1, 1) := by decide +kernel
theorem dX4_total_50 : decode cX4_total 50 = .ok (.aload 6, 2) := by decide +kernel
theorem dX4_total_52 : decode cX4_total 52 = .ok (.getfield 166, 3) := by decide +kernel
theorem dX4_total_55 : decode cX4_total 55 = .ok (.invokestatic 169, 3) := by decide +kernel
theorem dX4_total_58 : decode cX4_total 58 = .ok (.ifCond .eq 11, 3) := by decide +kernel
theorem dX4_total_61 : decode cX4_total 61 = .ok (.iload_n 2, 1) := by decide +kernel
theorem dX4_total_62 : decode cX4_total 62 = .ok (.aload 6, 2) := by decide +kernel
theorem dX4_total_64 : decode cX4_total 64 = .ok (.invokevirtual 173, 3) := by decide +kernel
theorem dX4_total_67 : decode cX4_total 67 = .ok (.iadd, 1) := by decide +kernel
theorem dX4_total_68 : decode cX4_total 68 = .ok (.istore_n 2, 1) := by decide +kernel
theorem dX4_total_69 : decode cX4_total 69 = .ok (.iinc 5 1, 3) := by decide +kernel
theorem dX4_total_72 : decode cX4_total 72 = .ok (.goto (-41), 3) := by decide +kernel
theorem dX4_total_75 : decode cX4_total 75 = .ok (.iload_n 2, 1) := by decide +kernel
theorem dX4_total_76 : decode cX4_total 76 = .ok (.ireturn, 1) := by decide +kernel
set_option maxRecDepth 20000 in
theorem ggX4_offer_X4_carrierAt : GoodIn wsX4_offer wsX4_carrierAt := goodIn_r _ [9, 10, 33, 34, 35, 36, 37, 38, 39, 40] (by decide +kernel) (by decide +kernel)
set_option maxRecDepth 20000 in
theorem gX4_offer_X4_carrierAt : GoodIn wsX4_offer (wsV RX4 176 RX4 yX4_carrierAt wsX4_carrierAt) := goodIn_app (goodIn_of _ (by decide +kernel)) ggX4_offer_X4_carrierAt
set_option maxRecDepth 20000 in
theorem ggX4_offer_X4_isPrefix : GoodIn wsX4_offer wsX4_isPrefix := goodIn_r _ [13, 14, 15, 16, 8, 17] (by decide +kernel) (by decide +kernel)
set_option maxRecDepth 20000 in
theorem gX4_offer_X4_isPrefix : GoodIn wsX4_offer (va_wsS RX4 115 yX4_isPrefix wsX4_isPrefix) := goodIn_app (goodIn_of _ (by decide +kernel)) ggX4_offer_X4_isPrefix
set_option maxRecDepth 20000 in
theorem ggX4_offer_X4_within : GoodIn wsX4_offer wsX4_within := goodIn_r _ [17] (by decide +kernel) (by decide +kernel)
set_option maxRecDepth 20000 in
theorem gX4_offer_X4_within : GoodIn wsX4_offer (va_wsS RX4 39 yX4_within wsX4_within) := goodIn_app (goodIn_of _ (by decide +kernel)) ggX4_offer_X4_within
set_option maxRecDepth 20000 in
theorem ggX4_offer_X1_hasPlaceFor : GoodIn wsX4_offer wsX1_hasPlaceFor := goodIn_r _ [22, 23, 24, 25, 21, 26, 27, 41, 42] (by decide +kernel) (by decide +kernel)
set_option maxRecDepth 20000 in
theorem gX4_offer_X1_hasPlaceFor : GoodIn wsX4_offer (wsV RX4 182 RX1 yX1_hasPlaceFor wsX1_hasPlaceFor) := goodIn_app (goodIn_of _ (by decide +kernel)) ggX4_offer_X1_hasPlaceFor
set_option maxRecDepth 20000 in
theorem ggX4_offer_X1_replacePrice : GoodIn wsX4_offer wsX1_replacePrice := goodIn_r _ [31, 32, 27, 23, 24, 25, 21, 26, 41, 42] (by decide +kernel) (by decide +kernel)
set_option maxRecDepth 20000 in
theorem gX4_offer_X1_replacePrice : GoodIn wsX4_offer (wsV RX4 187 RX1 yX1_replacePrice wsX1_replacePrice) := goodIn_app (goodIn_of _ (by decide +kernel)) ggX4_offer_X1_replacePrice
theorem dX4_offer_0 : decode cX4_offer 0 = .ok (.aload_n 0, 1) := by decide +kernel
theorem dX4_offer_1 : decode cX4_offer 1 = .ok (.iload_n 1, 1) := by decide +kernel
theorem dX4_offer_2 : decode cX4_offer 2 = .ok (.invokevirtual 176, 3) := by decide +kernel
theorem dX4_offer_5 : decode cX4_offer 5 = .ok (.astore 4, 2) := by decide +kernel
theorem dX4_offer_7 : decode cX4_offer 7 = .ok (.aload 4, 2) := by decide +kernel
theorem dX4_offer_9 : decode cX4_offer 9 = .ok (.ifnull 21, 3) := by decide +kernel
theorem dX4_offer_12 : decode cX4_offer 12 = .ok (.iload_n 2, 1) := by decide +kernel
theorem dX4_offer_13 : decode cX4_offer 13 = .ok (.invokestatic 115, 3) := by decide +kernel
theorem dX4_offer_16 : decode cX4_offer 16 = .ok (.ifCond .eq 14, 3) := by decide +kernel
theorem dX4_offer_19 : decode cX4_offer 19 = .ok (.iload_n 3, 1) := by decide +kernel
theorem dX4_offer_20 : decode cX4_offer 20 = .ok (.iconst (-1), 1) := by decide +kernel
theorem dX4_offer_21 : decode cX4_offer 21 = .ok (.sipush 10000, 3) := by decide +kernel
theorem dX4_offer_24 : decode cX4_offer 24 = .ok (.invokestatic 39, 3) := by decide +kernel
theorem dX4_offer_27 : decode cX4_offer 27 = .ok (.ifCond .ne 13, 3) := by decide +kernel
theorem dX4_offer_30 : decode cX4_offer 30 = .ok (.new 43, 3) := by decide +kernel
theorem dX4_offer_33 : decode cX4_offer 33 = .ok (.dup, 1) := by decide +kernel
theorem dX4_offer_34 : decode cX4_offer 34 = .ok (.ldc 180, 2) := by decide +kernel
theorem dX4_offer_36 : decode cX4_offer 36 = .ok (.invokespecial 47, 3) := by decide +kernel
theorem dX4_offer_39 : decode cX4_offer 39 = .ok (.athrow, 1) := by decide +kernel
theorem dX4_offer_40 : decode cX4_offer 40 = .ok (.iload_n 3, 1) := by decide +kernel
theorem dX4_offer_41 : decode cX4_offer 41 = .ok (.iconst (-1), 1) := by decide +kernel
theorem dX4_offer_42 : decode cX4_offer 42 = .ok (.if_icmp .eq 22, 3) := by decide +kernel
theorem dX4_offer_45 : decode cX4_offer 45 = .ok (.aload 4, 2) := by decide +kernel
theorem dX4_offer_47 : decode cX4_offer 47 = .ok (.iload_n 2, 1) := by decide +kernel
theorem dX4_offer_48 : decode cX4_offer 48 = .ok (.invokevirtual 182, 3) := by decide +kernel
theorem dX4_offer_51 : decode cX4_offer 51 = .ok (.ifCond .ne 13, 3) := by decide +kernel
theorem dX4_offer_54 : decode cX4_offer 54 = .ok (.new 75, 3) := by decide +kernel
theorem dX4_offer_57 : decode cX4_offer 57 = .ok (.dup, 1) := by decide +kernel
theorem dX4_offer_58 : decode cX4_offer 58 = .ok (.ldc 185, 2) := by decide +kernel
theorem dX4_offer_60 : decode cX4_offer 60 = .ok (.invokespecial 79, 3) := by decide +kernel
theorem dX4_offer_63 : decode cX4_offer 63 = .ok (.athrow, 1) := by decide +kernel
theorem dX4_offer_64 : decode cX4_offer 64 = .ok (.aload 4, 2) := by decide +kernel
theorem dX4_offer_66 : decode cX4_offer 66 = .ok (.iload_n 2, 1) := by decide +kernel
theorem dX4_offer_67 : decode cX4_offer 67 = .ok (.iload_n 3, 1) := by decide +kernel
theorem dX4_offer_68 : decode cX4_offer 68 = .ok (.invokevirtual 187, 3) := by decide +kernel
theorem dX4_offer_71 : decode cX4_offer 71 = .ok (.ireturn, 1) := by decide +kernel
set_option maxRecDepth 20000 in
theorem ggX4_offerFor_X4_carrierAt : GoodIn wsX4_offerFor wsX4_carrierAt := goodIn_r _ [9, 10, 27, 28, 29, 30, 31, 32, 33, 34] (by decide +kernel) (by decide +kernel)
set_option maxRecDepth 20000 in
theorem gX4_offerFor_X4_carrierAt : GoodIn wsX4_offerFor (wsV RX4 176 RX4 yX4_carrierAt wsX4_carrierAt) := goodIn_app (goodIn_of _ (by decide +kernel)) ggX4_offerFor_X4_carrierAt
set_option maxRecDepth 20000 in
theorem ggX4_offerFor_X4_isNumber : GoodIn wsX4_offerFor wsX4_isNumber := goodIn_r _ [13, 14, 15, 16, 8, 17] (by decide +kernel) (by decide +kernel)
set_option maxRecDepth 20000 in
theorem gX4_offerFor_X4_isNumber : GoodIn wsX4_offerFor (va_wsS RX4 54 yX4_isNumber wsX4_isNumber) := goodIn_app (goodIn_of _ (by decide +kernel)) ggX4_offerFor_X4_isNumber
set_option maxRecDepth 20000 in
theorem ggX4_offerFor_X1_priceFor : GoodIn wsX4_offerFor wsX1_priceFor := goodIn_r _ [22, 23, 24, 25, 8, 26, 35, 36] (by decide +kernel) (by decide +kernel)
set_option maxRecDepth 20000 in
theorem gX4_offerFor_X1_priceFor : GoodIn wsX4_offerFor (wsV RX4 193 RX1 yX1_priceFor wsX1_priceFor) := goodIn_app (goodIn_of _ (by decide +kernel)) ggX4_offerFor_X1_priceFor
theorem dX4_offerFor_0 : decode cX4_offerFor 0 = .ok (.aload_n 0, 1) := by decide +kernel
theorem dX4_offerFor_1 : decode cX4_offerFor 1 = .ok (.iload_n 1, 1) := by decide +kernel
theorem dX4_offerFor_2 : decode cX4_offerFor 2 = .ok (.invokevirtual 176, 3) := by decide +kernel
theorem dX4_offerFor_5 : decode cX4_offerFor 5 = .ok (.astore_n 3, 1) := by decide +kernel
theorem dX4_offerFor_6 : decode cX4_offerFor 6 = .ok (.aload_n 3, 1) := by decide +kernel
theorem dX4_offerFor_7 : decode cX4_offerFor 7 = .ok (.ifnull 10, 3) := by decide +kernel
theorem dX4_offerFor_10 : decode cX4_offerFor 10 = .ok (.iload_n 2, 1) := by decide +kernel
theorem dX4_offerFor_11 : decode cX4_offerFor 11 = .ok (.invokestatic 54, 3) := by decide +kernel
theorem dX4_offerFor_14 : decode cX4_offerFor 14 = .ok (.ifCond .ne 13, 3) := by decide +kernel
theorem dX4_offerFor_17 : decode cX4_offerFor 17 = .ok (.new 43, 3) := by decide +kernel
theorem dX4_offerFor_20 : decode cX4_offerFor 20 = .ok (.dup, 1) := by decide +kernel
theorem dX4_offerFor_21 : decode cX4_offerFor 21 = .ok (.ldc 191, 2) := by decide +kernel
theorem dX4_offerFor_23 : decode cX4_offerFor 23 = .ok (.invokespecial 47, 3) := by decide +kernel
theorem dX4_offerFor_26 : decode cX4_offerFor 26 = .ok (.athrow, 1) := by decide +kernel
theorem dX4_offerFor_27 : decode cX4_offerFor 27 = .ok (.aload_n 3, 1) := by decide +kernel
theorem dX4_offerFor_28 : decode cX4_offerFor 28 = .ok (.iload_n 2, 1) := by decide +kernel
theorem dX4_offerFor_29 : decode cX4_offerFor 29 = .ok (.invokevirtual 193, 3) := by decide +kernel
theorem dX4_offerFor_32 : decode cX4_offerFor 32 = .ok (.istore 4, 2) := by decide +kernel
theorem dX4_offerFor_34 : decode cX4_offerFor 34 = .ok (.iload 4, 2) := by decide +kernel
theorem dX4_offerFor_36 : decode cX4_offerFor 36 = .ok (.iconst (-1), 1) := by decide +kernel
theorem dX4_offerFor_37 : decode cX4_offerFor 37 = .ok (.if_icmp .ne 13, 3) := by decide +kernel
theorem dX4_offerFor_40 : decode cX4_offerFor 40 = .ok (.new 137, 3) := by decide +kernel
theorem dX4_offerFor_43 : decode cX4_offerFor 43 = .ok (.dup, 1) := by decide +kernel
theorem dX4_offerFor_44 : decode cX4_offerFor 44 = .ok (.ldc 197, 2) := by decide +kernel
theorem dX4_offerFor_46 : decode cX4_offerFor 46 = .ok (.invokespecial 141, 3) := by decide +kernel
theorem dX4_offerFor_49 : decode cX4_offerFor 49 = .ok (.athrow, 1) := by decide +kernel
theorem dX4_offerFor_50 : decode cX4_offerFor 50 = .ok (.iload 4, 2) := by decide +kernel
theorem dX4_offerFor_52 : decode cX4_offerFor 52 = .ok (.ireturn, 1) := by decide +kernel
set_option maxRecDepth 20000 in
theorem ggX4_route_X4_isNumber : GoodIn wsX4_route wsX4_isNumber := goodIn_r _ [9, 10, 11, 12, 8, 13] (by decide +kernel) (by decide +kernel)
set_option maxRecDepth 20000 in
theorem gX4_route_X4_isNumber : GoodIn wsX4_route (va_wsS RX4 54 yX4_isNumber wsX4_isNumber) := goodIn_app (goodIn_of _ (by decide +kernel)) ggX4_route_X4_isNumber
set_option maxRecDepth 20000 in
theorem ggX4_route_X4_isDay : GoodIn wsX4_route wsX4_isDay := goodIn_r _ [16, 11, 12, 8, 13] (by decide +kernel) (by decide +kernel)
set_option maxRecDepth 20000 in
theorem gX4_route_X4_isDay : GoodIn wsX4_route (va_wsS RX4 118 yX4_isDay wsX4_isDay) := goodIn_app (goodIn_of _ (by decide +kernel)) ggX4_route_X4_isDay
set_option maxRecDepth 20000 in
theorem ggX4_route_X4_within : GoodIn wsX4_route wsX4_within := goodIn_r _ [13] (by decide +kernel) (by decide +kernel)
set_option maxRecDepth 20000 in
theorem gX4_route_X4_within : GoodIn wsX4_route (va_wsS RX4 39 yX4_within wsX4_within) := goodIn_app (goodIn_of _ (by decide +kernel)) ggX4_route_X4_within
set_option maxRecDepth 20000 in
theorem ggX4_route_X4_rateInForce : GoodIn wsX4_route wsX4_rateInForce := goodIn_r _ [20, 21, 22, 23, 24, 25, 8, 26, 27, 28, 29, 30, 31, 32, 33, 34, 66, 67, 68, 69, 70, 71, 72, 73, 59, 60, 61, 62, 63, 64, 65] (by decide +kernel) (by decide +kernel)
set_option maxRecDepth 20000 in
theorem gX4_route_X4_rateInForce : GoodIn wsX4_route (wsV RX4 133 RX4 yX4_rateInForce wsX4_rateInForce) := goodIn_app (goodIn_of _ (by decide +kernel)) ggX4_route_X4_rateInForce
set_option maxRecDepth 20000 in
theorem ggX4_route_X4_carrierOfRank : GoodIn wsX4_route wsX4_carrierOfRank := goodIn_r _ [38, 39, 40, 41, 42, 8, 43, 44, 45, 46, 47, 48, 49, 50, 51, 52, 53, 54, 25, 26, 55, 56, 57, 58, 66, 67, 68, 69, 70, 71, 72, 73, 74, 75] (by decide +kernel) (by decide +kernel)
set_option maxRecDepth 20000 in
theorem gX4_route_X4_carrierOfRank : GoodIn wsX4_route (wsV RX4 204 RX4 yX4_carrierOfRank wsX4_carrierOfRank) := goodIn_app (goodIn_of _ (by decide +kernel)) ggX4_route_X4_carrierOfRank
theorem dX4_route_0 : decode cX4_route 0 = .ok (.iload_n 1, 1) := by decide +kernel
theorem dX4_route_1 : decode cX4_route 1 = .ok (.invokestatic 54, 3) := by decide +kernel
theorem dX4_route_4 : decode cX4_route 4 = .ok (.ifCond .eq 26, 3) := by decide +kernel
theorem dX4_route_7 : decode cX4_route 7 = .ok (.iload_n 2, 1) := by decide +kernel
theorem dX4_route_8 : decode cX4_route 8 = .ok (.invokestatic 118, 3) := by decide +kernel
theorem dX4_route_11 : decode cX4_route 11 = .ok (.ifCond .eq 19, 3) := by decide +kernel
theorem dX4_route_14 : decode cX4_route 14 = .ok (.iload_n 3, 1) := by decide +kernel
theorem dX4_route_15 : decode cX4_route 15 = .ok (.iconst 0, 1) := by decide +kernel
theorem dX4_route_16 : decode cX4_route 16 = .ok (.sipush 10000, 3) := by decide +kernel
theorem dX4_route_19 : decode cX4_route 19 = .ok (.invokestatic 39, 3) := by decide +kernel
theorem dX4_route_22 : decode cX4_route 22 = .ok (.ifCond .eq 8, 3) := by decide +kernel
theorem dX4_route_25 : decode cX4_route 25 = .ok (.iload 4, 2) := by decide +kernel
theorem dX4_route_27 : decode cX4_route 27 = .ok (.ifCond .ge 13, 3) := by decide +kernel
theorem dX4_route_30 : decode cX4_route 30 = .ok (.new 43, 3) := by decide +kernel
theorem dX4_route_33 : decode cX4_route 33 = .ok (.dup, 1) := by decide +kernel
theorem dX4_route_34 : decode cX4_route 34 = .ok (.ldc 199, 2) := by decide +kernel
theorem dX4_route_36 : decode cX4_route 36 = .ok (.invokespecial 47, 3) := by decide +kernel
theorem dX4_route_39 : decode cX4_route 39 = .ok (.athrow, 1) := by decide +kernel
theorem dX4_route_40 : decode cX4_route 40 = .ok (.aload_n 0, 1) := by decide +kernel
theorem dX4_route_41 : decode cX4_route 41 = .ok (.iload_n 1, 1) := by decide +kernel
theorem dX4_route_42 : decode cX4_route 42 = .ok (.iload_n 2, 1) := by decide +kernel
theorem dX4_route_43 : decode cX4_route 43 = .ok (.invokevirtual 133, 3) := by decide +kernel
theorem dX4_route_46 : decode cX4_route 46 = .ok (.astore 5, 2) := by decide +kernel
theorem dX4_route_48 : decode cX4_route 48 = .ok (.aload 5, 2) := by decide +kernel
theorem dX4_route_50 : decode cX4_route 50 = .ok (.ifnonnull 13, 3) := by decide +kernel
theorem dX4_route_53 : decode cX4_route 53 = .ok (.new 137, 3) := by decide +kernel
theorem dX4_route_56 : decode cX4_route 56 = .ok (.dup, 1) := by decide +kernel
theorem dX4_route_57 : decode cX4_route 57 = .ok (.ldc 139, 2) := by decide +kernel
theorem dX4_route_59 : decode cX4_route 59 = .ok (.invokespecial 141, 3) := by decide +kernel
theorem dX4_route_62 : decode cX4_route 62 = .ok (.athrow, 1) := by decide +kernel
theorem dX4_route_63 : decode cX4_route 63 = .ok (.aload_n 0, 1) := by decide +kernel
theorem dX4_route_64 : decode cX4_route 64 = .ok (.iload_n 1, 1) := by decide +kernel
theorem dX4_route_65 : decode cX4_route 65 = .ok (.aload 5, 2) := by decide +kernel
theorem dX4_route_67 : decode cX4_route 67 = .ok (.getfield 201, 3) := by decide +kernel
theorem dX4_route_70 : decode cX4_route 70 = .ok (.iload_n 3, 1) := by decide +kernel
theorem dX4_route_71 : decode cX4_route 71 = .ok (.isub, 1) := by decide +kernel
theorem dX4_route_72 : decode cX4_route 72 = .ok (.iload 4, 2) := by decide +kernel
theorem dX4_route_74 : decode cX4_route 74 = .ok (.invokevirtual 204, 3) := by decide +kernel
theorem dX4_route_77 : decode cX4_route 77 = .ok (.istore 6, 2) := by decide +kernel
theorem dX4_route_79 : decode cX4_route 79 = .ok (.iload 6, 2) := by decide +kernel
theorem dX4_route_81 : decode cX4_route 81 = .ok (.iconst (-1), 1) := by decide +kernel
theorem dX4_route_82 : decode cX4_route 82 = .ok (.if_icmp .ne 13, 3) := by decide +kernel
theorem dX4_route_85 : decode cX4_route 85 = .ok (.new 137, 3) := by decide +kernel
theorem dX4_route_88 : decode cX4_route 88 = .ok (.dup, 1) := by decide +kernel
theorem dX4_route_89 : decode cX4_route 89 = .ok (.ldc 208, 2) := by decide +kernel
theorem dX4_route_91 : decode cX4_route 91 = .ok (.invokespecial 141, 3) := by decide +kernel
theorem dX4_route_94 : decode cX4_route 94 = .ok (.athrow, 1) := by decide +kernel
theorem dX4_route_95 : decode cX4_route 95 = .ok (.iload 6, 2) := by decide +kernel
theorem dX4_route_97 : decode cX4_route 97 = .ok (.ireturn, 1) := by decide +kernel
set_option maxRecDepth 20000 in
theorem ggX4_claim_X4_callAt : GoodIn wsX4_claim wsX4_callAt := goodIn_r _ [11, 12, 24, 25, 26, 27, 28, 29, 30, 31] (by decide +kernel) (by decide +kernel)
set_option maxRecDepth 20000 in
theorem gX4_claim_X4_callAt : GoodIn wsX4_claim (wsV RX4 100 RX4 yX4_callAt wsX4_callAt) := goodIn_app (goodIn_of _ (by decide +kernel)) ggX4_claim_X4_callAt
set_option maxRecDepth 20000 in
theorem ggX4_claim_X4_within : GoodIn wsX4_claim wsX4_within := goodIn_r _ [15] (by decide +kernel) (by decide +kernel)
set_option maxRecDepth 20000 in
theorem gX4_claim_X4_within : GoodIn wsX4_claim (va_wsS RX4 39 yX4_within wsX4_within) := goodIn_app (goodIn_of _ (by decide +kernel)) ggX4_claim_X4_within
theorem dX4_claim_0 : decode cX4_claim 0 = .ok (.aload_n 0, 1) := by decide +kernel
theorem dX4_claim_1 : decode cX4_claim 1 = .ok (.iload_n 1, 1) := by decide +kernel
theorem dX4_claim_2 : decode cX4_claim 2 = .ok (.invokevirtual 100, 3) := by decide +kernel
theorem dX4_claim_5 : decode cX4_claim 5 = .ok (.astore_n 3, 1) := by decide +kernel
theorem dX4_claim_6 : decode cX4_claim 6 = .ok (.aload_n 3, 1) := by decide +kernel
theorem dX4_claim_7 : decode cX4_claim 7 = .ok (.ifnonnull 13, 3) := by decide +kernel
theorem dX4_claim_10 : decode cX4_claim 10 = .ok (.new 104, 3) := by decide +kernel
theorem dX4_claim_13 : decode cX4_claim 13 = .ok (.dup, 1) := by decide +kernel
theorem dX4_claim_14 : decode cX4_claim 14 = .ok (.ldc 106, 2) := by decide +kernel
theorem dX4_claim_16 : decode cX4_claim 16 = .ok (.invokespecial 108, 3) := by decide +kernel
theorem dX4_claim_19 : decode cX4_claim 19 = .ok (.athrow, 1) := by decide +kernel
theorem dX4_claim_20 : decode cX4_claim 20 = .ok (.iload_n 2, 1) := by decide +kernel
theorem dX4_claim_21 : decode cX4_claim 21 = .ok (.iconst 0, 1) := by decide +kernel
theorem dX4_claim_22 : decode cX4_claim 22 = .ok (.ldc 210, 2) := by decide +kernel
theorem dX4_claim_24 : decode cX4_claim 24 = .ok (.invokestatic 39, 3) := by decide +kernel
theorem dX4_claim_27 : decode cX4_claim 27 = .ok (.ifCond .ne 13, 3) := by decide +kernel
theorem dX4_claim_30 : decode cX4_claim 30 = .ok (.new 43, 3) := by decide +kernel
theorem dX4_claim_33 : decode cX4_claim 33 = .ok (.dup, 1) := by decide +kernel
theorem dX4_claim_34 : decode cX4_claim 34 = .ok (.ldc 211, 2) := by decide +kernel
theorem dX4_claim_36 : decode cX4_claim 36 = .ok (.invokespecial 47, 3) := by decide +kernel
theorem dX4_claim_39 : decode cX4_claim 39 = .ok (.athrow, 1) := by decide +kernel
theorem dX4_claim_40 : decode cX4_claim 40 = .ok (.aload_n 3, 1) := by decide +kernel
theorem dX4_claim_41 : decode cX4_claim 41 = .ok (.getfield 213, 3) := by decide +kernel
theorem dX4_claim_44 : decode cX4_claim 44 = .ok (.istore 4, 2) := by decide +kernel
theorem dX4_claim_46 : decode cX4_claim 46 = .ok (.aload_n 3, 1) := by decide +kernel
theorem dX4_claim_47 : decode cX4_claim 47 = .ok (.iload_n 2, 1) := by decide +kernel
theorem dX4_claim_48 : decode cX4_claim 48 = .ok (.putfield 213, 3) := by decide +kernel
theorem dX4_claim_51 : decode cX4_claim 51 = .ok (.iload 4, 2) := by decide +kernel
theorem dX4_claim_53 : decode cX4_claim 53 = .ok (.ireturn, 1) := by decide +kernel
set_option maxRecDepth 20000 in
theorem ggX4_difference_X4_isPrefix : GoodIn wsX4_difference wsX4_isPrefix := goodIn_r _ [6, 7, 8, 9, 5, 10] (by decide +kernel) (by decide +kernel)
set_option maxRecDepth 20000 in
theorem gX4_difference_X4_isPrefix : GoodIn wsX4_difference (va_wsS RX4 115 yX4_isPrefix wsX4_isPrefix) := goodIn_app (goodIn_of _ (by decide +kernel)) ggX4_difference_X4_isPrefix
set_option maxRecDepth 20000 in
theorem ggX4_difference_X4_differenceUnder : GoodIn wsX4_difference wsX4_differenceUnder := goodIn_r _ [14, 15, 16, 17, 18, 5, 19, 20, 21, 22, 23, 24, 25, 26, 27, 28, 29, 30, 31, 32, 33, 34, 35, 36, 37, 38, 39, 40, 41, 42, 43, 44, 45, 46, 47, 48, 49, 50] (by decide +kernel) (by decide +kernel)
set_option maxRecDepth 20000 in
theorem gX4_difference_X4_differenceUnder : GoodIn wsX4_difference (wsV RX4 216 RX4 yX4_differenceUnder wsX4_differenceUnder) := goodIn_app (goodIn_of _ (by decide +kernel)) ggX4_difference_X4_differenceUnder
theorem dX4_difference_0 : decode cX4_difference 0 = .ok (.iload_n 1, 1) := by decide +kernel
theorem dX4_difference_1 : decode cX4_difference 1 = .ok (.invokestatic 115, 3) := by decide +kernel
theorem dX4_difference_4 : decode cX4_difference 4 = .ok (.ifCond .ne 13, 3) := by decide +kernel
theorem dX4_difference_7 : decode cX4_difference 7 = .ok (.new 43, 3) := by decide +kernel
theorem dX4_difference_10 : decode cX4_difference 10 = .ok (.dup, 1) := by decide +kernel
theorem dX4_difference_11 : decode cX4_difference 11 = .ok (.ldc 164, 2) := by decide +kernel
theorem dX4_difference_13 : decode cX4_difference 13 = .ok (.invokespecial 47, 3) := by decide +kernel
theorem dX4_difference_16 : decode cX4_difference 16 = .ok (.athrow, 1) := by decide +kernel
theorem dX4_difference_17 : decode cX4_difference 17 = .ok (.aload_n 0, 1) := by decide +kernel
theorem dX4_difference_18 : decode cX4_difference 18 = .ok (.iload_n 1, 1) := by decide +kernel
theorem dX4_difference_19 : decode cX4_difference 19 = .ok (.invokevirtual 216, 3) := by decide +kernel
theorem dX4_difference_22 : decode cX4_difference 22 = .ok (.ireturn, 1) := by decide +kernel
set_option maxRecDepth 20000 in
theorem ggX4_narrow_X4_within : GoodIn wsX4_narrow wsX4_within := goodIn_r _ [6] (by decide +kernel) (by decide +kernel)
set_option maxRecDepth 20000 in
theorem gX4_narrow_X4_within : GoodIn wsX4_narrow (va_wsS RX4 39 yX4_within wsX4_within) := goodIn_app (goodIn_of _ (by decide +kernel)) ggX4_narrow_X4_within
set_option maxRecDepth 20000 in
theorem ggX4_narrow_X4_withWorstDigit : GoodIn wsX4_narrow wsX4_withWorstDigit := goodIn_r _ [10, 11, 12, 13, 14, 15, 16, 17, 5, 18, 19, 20, 21, 22, 23, 24, 25, 26, 27, 28, 29, 30, 31, 32, 33, 34, 35, 36, 37, 38, 39, 40, 41, 42, 43, 44, 45, 46, 47, 48, 49, 50, 51, 52, 53, 54] (by decide +kernel) (by decide +kernel)
set_option maxRecDepth 20000 in
theorem gX4_narrow_X4_withWorstDigit : GoodIn wsX4_narrow (wsV RX4 221 RX4 yX4_withWorstDigit wsX4_withWorstDigit) := goodIn_app (goodIn_of _ (by decide +kernel)) ggX4_narrow_X4_withWorstDigit
theorem dX4_narrow_0 : decode cX4_narrow 0 = .ok (.iload_n 1, 1) := by decide +kernel
theorem dX4_narrow_1 : decode cX4_narrow 1 = .ok (.iconst 1, 1) := by decide +kernel
theorem dX4_narrow_2 : decode cX4_narrow 2 = .ok (.iconst 5, 1) := by decide +kernel
theorem dX4_narrow_3 : decode cX4_narrow 3 = .ok (.invokestatic 39, 3) := by decide +kernel
theorem dX4_narrow_6 : decode cX4_narrow 6 = .ok (.ifCond .ne 13, 3) := by decide +kernel
theorem dX4_narrow_9 : decode cX4_narrow 9 = .ok (.new 43, 3) := by decide +kernel
theorem dX4_narrow_12 : decode cX4_narrow 12 = .ok (.dup, 1) := by decide +kernel
theorem dX4_narrow_13 : decode cX4_narrow 13 = .ok (.ldc 219, 2) := by decide +kernel
theorem dX4_narrow_15 : decode cX4_narrow 15 = .ok (.invokespecial 47, 3) := by decide +kernel
theorem dX4_narrow_18 : decode cX4_narrow 18 = .ok (.athrow, 1) := by decide +kernel
theorem dX4_narrow_19 : decode cX4_narrow 19 = .ok (.iconst 0, 1) := by decide +kernel
theorem dX4_narrow_20 : decode cX4_narrow 20 = .ok (.istore_n 2, 1) := by decide +kernel
theorem dX4_narrow_21 : decode cX4_narrow 21 = .ok (.iconst 0, 1) := by decide +kernel
theorem dX4_narrow_22 : decode cX4_narrow 22 = .ok (.istore_n 3, 1) := by decide +kernel
theorem dX4_narrow_23 : decode cX4_narrow 23 = .ok (.iload_n 3, 1) := by decide +kernel
theorem dX4_narrow_24 : decode cX4_narrow 24 = .ok (.iload_n 1, 1) := by decide +kernel
theorem dX4_narrow_25 : decode cX4_narrow 25 = .ok (.if_icmp .ge 15, 3) := by decide +kernel
theorem dX4_narrow_28 : decode cX4_narrow 28 = .ok (.aload_n 0, 1) := by decide +kernel
theorem dX4_narrow_29 : decode cX4_narrow 29 = .ok (.iload_n 2, 1) := by decide +kernel
theorem dX4_narrow_30 : decode cX4_narrow 30 = .ok (.invokevirtual 221, 3) := by decide +kernel
theorem dX4_narrow_33 : decode cX4_narrow 33 = .ok (.istore_n 2, 1) := by decide +kernel
theorem dX4_narrow_34 : decode cX4_narrow 34 = .ok (.iinc 3 1, 3) := by decide +kernel
theorem dX4_narrow_37 : decode cX4_narrow 37 = .ok (.goto (-14), 3) := by decide +kernel
theorem dX4_narrow_40 : decode cX4_narrow 40 = .ok (.iload_n 2, 1) := by decide +kernel
theorem dX4_narrow_41 : decode cX4_narrow 41 = .ok (.ireturn, 1) := by decide +kernel
set_option maxRecDepth 20000 in
theorem ggX4_worst_X0_disputed : GoodIn wsX4_worst wsX0_disputed := goodIn_r _ [13, 14, 15, 16, 17, 12, 18, 19, 20, 21, 22, 23, 32, 33, 34, 35, 36, 37, 38, 39] (by decide +kernel) (by decide +kernel)
set_option maxRecDepth 20000 in
theorem gX4_worst_X0_disputed : GoodIn wsX4_worst (wsV RX4 224 RX0 yX0_disputed wsX0_disputed) := goodIn_app (goodIn_of _ (by decide +kernel)) ggX4_worst_X0_disputed
theorem dX4_worst_0 : decode cX4_worst 0 = .ok (.aconst_null, 1) := by decide +kernel
theorem dX4_worst_1 : decode cX4_worst 1 = .ok (.astore_n 1, 1) := by decide +kernel
theorem dX4_worst_2 : decode cX4_worst 2 = .ok (.aload_n 0, 1) := by decide +kernel
theorem dX4_worst_3 : decode cX4_worst 3 = .ok (.getfield 17, 3) := by decide +kernel
theorem dX4_worst_6 : decode cX4_worst 6 = .ok (.astore_n 2, 1) := by decide +kernel
theorem dX4_worst_7 : decode cX4_worst 7 = .ok (.aload_n 2, 1) := by decide +kernel
theorem dX4_worst_8 : decode cX4_worst 8 = .ok (.arraylength, 1) := by decide +kernel
theorem dX4_worst_9 : decode cX4_worst 9 = .ok (.istore_n 3, 1) := by decide +kernel
theorem dX4_worst_10 : decode cX4_worst 10 = .ok (.iconst 0, 1) := by decide +kernel
theorem dX4_worst_11 : decode cX4_worst 11 = .ok (.istore 4, 2) := by decide +kernel
theorem dX4_worst_13 : decode cX4_worst 13 = .ok (.iload 4, 2) := by decide +kernel
theorem dX4_worst_15 : decode cX4_worst 15 = .ok (.iload_n 3, 1) := by decide +kernel
theorem dX4_worst_16 : decode cX4_worst 16 = .ok (.if_icmp .ge 45, 3) := by decide +kernel
theorem dX4_worst_19 : decode cX4_worst 19 = .ok (.aload_n 2, 1) := by decide +kernel
theorem dX4_worst_20 : decode cX4_worst 20 = .ok (.iload 4, 2) := by decide +kernel
theorem dX4_worst_22 : decode cX4_worst 22 = .ok (.aaload, 1) := by decide +kernel
theorem dX4_worst_23 : decode cX4_worst 23 = .ok (.astore 5, 2) := by decide +kernel
theorem dX4_worst_25 : decode cX4_worst 25 = .ok (.aload 5, 2) := by decide +kernel
theorem dX4_worst_27 : decode cX4_worst 27 = .ok (.ifnull 28, 3) := by decide +kernel
theorem dX4_worst_30 : decode cX4_worst 30 = .ok (.aload_n 1, 1) := by decide +kernel
theorem dX4_worst_31 : decode cX4_worst 31 = .ok (.ifnull 21, 3) := by decide +kernel
theorem dX4_worst_34 : decode cX4_worst 34 = .ok (.aload 5, 2) := by decide +kernel
theorem dX4_worst_36 : decode cX4_worst 36 = .ok (.invokevirtual 224, 3) := by decide +kernel
theorem dX4_worst_39 : decode cX4_worst 39 = .ok (.invokestatic 227, 3) := by decide +kernel
theorem dX4_worst_42 : decode cX4_worst 42 = .ok (.aload_n 1, 1) := by decide +kernel
theorem dX4_worst_43 : decode cX4_worst 43 = .ok (.invokevirtual 224, 3) := by decide +kernel
theorem dX4_worst_46 : decode cX4_worst 46 = .ok (.invokestatic 227, 3) := by decide +kernel
theorem dX4_worst_49 : decode cX4_worst 49 = .ok (.if_icmp .le 6, 3) := by decide +kernel
theorem dX4_worst_52 : decode cX4_worst 52 = .ok (.aload 5, 2) := by decide +kernel
theorem dX4_worst_54 : decode cX4_worst 54 = .ok (.astore_n 1, 1) := by decide +kernel
theorem dX4_worst_55 : decode cX4_worst 55 = .ok (.iinc 4 1, 3) := by decide +kernel
theorem dX4_worst_58 : decode cX4_worst 58 = .ok (.goto (-45), 3) := by decide +kernel
theorem dX4_worst_61 : decode cX4_worst 61 = .ok (.aload_n 1, 1) := by decide +kernel
theorem dX4_worst_62 : decode cX4_worst 62 = .ok (.ifnonnull 13, 3) := by decide +kernel
theorem dX4_worst_65 : decode cX4_worst 65 = .ok (.new 137, 3) := by decide +kernel
theorem dX4_worst_68 : decode cX4_worst 68 = .ok (.dup, 1) := by decide +kernel
theorem dX4_worst_69 : decode cX4_worst 69 = .ok (.ldc 232, 2) := by decide +kernel
theorem dX4_worst_71 : decode cX4_worst 71 = .ok (.invokespecial 141, 3) := by decide +kernel
theorem dX4_worst_74 : decode cX4_worst 74 = .ok (.athrow, 1) := by decide +kernel
theorem dX4_worst_75 : decode cX4_worst 75 = .ok (.aload_n 1, 1) := by decide +kernel
theorem dX4_worst_76 : decode cX4_worst 76 = .ok (.getfield 88, 3) := by decide +kernel
theorem dX4_worst_79 : decode cX4_worst 79 = .ok (.ireturn, 1) := by decide +kernel
theorem dX4_within_0 : decode cX4_within 0 = .ok (.iload_n 0, 1) := by decide +kernel
theorem dX4_within_1 : decode cX4_within 1 = .ok (.iload_n 1, 1) := by decide +kernel
theorem dX4_within_2 : decode cX4_within 2 = .ok (.if_icmp .lt 12, 3) := by decide +kernel
theorem dX4_within_5 : decode cX4_within 5 = .ok (.iload_n 0, 1) := by decide +kernel
theorem dX4_within_6 : decode cX4_within 6 = .ok (.iload_n 2, 1) := by decide +kernel
theorem dX4_within_7 : decode cX4_within 7 = .ok (.if_icmp .gt 7, 3) := by decide +kernel
theorem dX4_within_10 : decode cX4_within 10 = .ok (.iconst 1, 1) := by decide +kernel
theorem dX4_within_11 : decode cX4_within 11 = .ok (.goto 4, 3) := by decide +kernel
theorem dX4_within_14 : decode cX4_within 14 = .ok (.iconst 0, 1) := by decide +kernel
theorem dX4_within_15 : decode cX4_within 15 = .ok (.ireturn, 1) := by decide +kernel
set_option maxRecDepth 20000 in
theorem ggX4_isNumber_X4_within : GoodIn wsX4_isNumber wsX4_within := goodIn_r _ [5] (by decide +kernel) (by decide +kernel)
set_option maxRecDepth 20000 in
theorem gX4_isNumber_X4_within : GoodIn wsX4_isNumber (va_wsS RX4 39 yX4_within wsX4_within) := goodIn_app (goodIn_of _ (by decide +kernel)) ggX4_isNumber_X4_within
theorem dX4_isNumber_0 : decode cX4_isNumber 0 = .ok (.iload_n 0, 1) := by decide +kernel
theorem dX4_isNumber_1 : decode cX4_isNumber 1 = .ok (.sipush 1000, 3) := by decide +kernel
theorem dX4_isNumber_4 : decode cX4_isNumber 4 = .ok (.ldc 234, 2) := by decide +kernel
theorem dX4_isNumber_6 : decode cX4_isNumber 6 = .ok (.invokestatic 39, 3) := by decide +kernel
theorem dX4_isNumber_9 : decode cX4_isNumber 9 = .ok (.ireturn, 1) := by decide +kernel
set_option maxRecDepth 20000 in
theorem ggX4_isPrefix_X4_within : GoodIn wsX4_isPrefix wsX4_within := goodIn_r _ [5] (by decide +kernel) (by decide +kernel)
set_option maxRecDepth 20000 in
theorem gX4_isPrefix_X4_within : GoodIn wsX4_isPrefix (va_wsS RX4 39 yX4_within wsX4_within) := goodIn_app (goodIn_of _ (by decide +kernel)) ggX4_isPrefix_X4_within
theorem dX4_isPrefix_0 : decode cX4_isPrefix 0 = .ok (.iload_n 0, 1) := by decide +kernel
theorem dX4_isPrefix_1 : decode cX4_isPrefix 1 = .ok (.iconst 1, 1) := by decide +kernel
theorem dX4_isPrefix_2 : decode cX4_isPrefix 2 = .ok (.ldc 235, 2) := by decide +kernel
theorem dX4_isPrefix_4 : decode cX4_isPrefix 4 = .ok (.invokestatic 39, 3) := by decide +kernel
theorem dX4_isPrefix_7 : decode cX4_isPrefix 7 = .ok (.ireturn, 1) := by decide +kernel
set_option maxRecDepth 20000 in
theorem ggX4_isDay_X4_within : GoodIn wsX4_isDay wsX4_within := goodIn_r _ [4] (by decide +kernel) (by decide +kernel)
set_option maxRecDepth 20000 in
theorem gX4_isDay_X4_within : GoodIn wsX4_isDay (va_wsS RX4 39 yX4_within wsX4_within) := goodIn_app (goodIn_of _ (by decide +kernel)) ggX4_isDay_X4_within
theorem dX4_isDay_0 : decode cX4_isDay 0 = .ok (.iload_n 0, 1) := by decide +kernel
theorem dX4_isDay_1 : decode cX4_isDay 1 = .ok (.iconst 0, 1) := by decide +kernel
theorem dX4_isDay_2 : decode cX4_isDay 2 = .ok (.sipush 999, 3) := by decide +kernel
theorem dX4_isDay_5 : decode cX4_isDay 5 = .ok (.invokestatic 39, 3) := by decide +kernel
theorem dX4_isDay_8 : decode cX4_isDay 8 = .ok (.ireturn, 1) := by decide +kernel
theorem dX4_fits_0 : decode cX4_fits 0 = .ok (.iload_n 1, 1) := by decide +kernel
theorem dX4_fits_1 : decode cX4_fits 1 = .ok (.istore_n 2, 1) := by decide +kernel
theorem dX4_fits_2 : decode cX4_fits 2 = .ok (.iconst 0, 1) := by decide +kernel
theorem dX4_fits_3 : decode cX4_fits 3 = .ok (.istore_n 3, 1) := by decide +kernel
theorem dX4_fits_4 : decode cX4_fits 4 = .ok (.iload_n 3, 1) := by decide +kernel
theorem dX4_fits_5 : decode cX4_fits 5 = .ok (.bipush 8, 2) := by decide +kernel
theorem dX4_fits_7 : decode cX4_fits 7 = .ok (.if_icmp .ge 19, 3) := by decide +kernel
theorem dX4_fits_10 : decode cX4_fits 10 = .ok (.iload_n 2, 1) := by decide +kernel
theorem dX4_fits_11 : decode cX4_fits 11 = .ok (.iload_n 0, 1) := by decide +kernel
theorem dX4_fits_12 : decode cX4_fits 12 = .ok (.if_icmp .le 14, 3) := by decide +kernel
theorem dX4_fits_15 : decode cX4_fits 15 = .ok (.iload_n 2, 1) := by decide +kernel
theorem dX4_fits_16 : decode cX4_fits 16 = .ok (.bipush 10, 2) := by decide +kernel
theorem dX4_fits_18 : decode cX4_fits 18 = .ok (.idiv, 1) := by decide +kernel
theorem dX4_fits_19 : decode cX4_fits 19 = .ok (.istore_n 2, 1) := by decide +kernel
theorem dX4_fits_20 : decode cX4_fits 20 = .ok (.iinc 3 1, 3) := by decide +kernel
theorem dX4_fits_23 : decode cX4_fits 23 = .ok (.goto (-19), 3) := by decide +kernel
theorem dX4_fits_26 : decode cX4_fits 26 = .ok (.iload_n 2, 1) := by decide +kernel
theorem dX4_fits_27 : decode cX4_fits 27 = .ok (.iload_n 0, 1) := by decide +kernel
theorem dX4_fits_28 : decode cX4_fits 28 = .ok (.if_icmp .ne 7, 3) := by decide +kernel
theorem dX4_fits_31 : decode cX4_fits 31 = .ok (.iconst 1, 1) := by decide +kernel
theorem dX4_fits_32 : decode cX4_fits 32 = .ok (.goto 4, 3) := by decide +kernel
theorem dX4_fits_35 : decode cX4_fits 35 = .ok (.iconst 0, 1) := by decide +kernel
theorem dX4_fits_36 : decode cX4_fits 36 = .ok (.ireturn, 1) := by decide +kernel
theorem dX4_sourceAt_0 : decode cX4_sourceAt 0 = .ok (.iload_n 1, 1) := by decide +kernel
theorem dX4_sourceAt_1 : decode cX4_sourceAt 1 = .ok (.ifCond .lt 21, 3) := by decide +kernel
theorem dX4_sourceAt_4 : decode cX4_sourceAt 4 = .ok (.iload_n 1, 1) := by decide +kernel
theorem dX4_sourceAt_5 : decode cX4_sourceAt 5 = .ok (.aload_n 0, 1) := by decide +kernel
theorem dX4_sourceAt_6 : decode cX4_sourceAt 6 = .ok (.getfield 11, 3) := by decide +kernel
theorem dX4_sourceAt_9 : decode cX4_sourceAt 9 = .ok (.arraylength, 1) := by decide +kernel
theorem dX4_sourceAt_10 : decode cX4_sourceAt 10 = .ok (.if_icmp .ge 12, 3) := by decide +kernel
theorem dX4_sourceAt_13 : decode cX4_sourceAt 13 = .ok (.aload_n 0, 1) := by decide +kernel
theorem dX4_sourceAt_14 : decode cX4_sourceAt 14 = .ok (.getfield 11, 3) := by decide +kernel
theorem dX4_sourceAt_17 : decode cX4_sourceAt 17 = .ok (.iload_n 1, 1) := by decide +kernel
theorem dX4_sourceAt_18 : decode cX4_sourceAt 18 = .ok (.aaload, 1) := by decide +kernel
theorem dX4_sourceAt_19 : decode cX4_sourceAt 19 = .ok (.goto 4, 3) := by decide +kernel
theorem dX4_sourceAt_22 : decode cX4_sourceAt 22 = .ok (.aconst_null, 1) := by decide +kernel
theorem dX4_sourceAt_23 : decode cX4_sourceAt 23 = .ok (.areturn, 1) := by decide +kernel
theorem dX4_callAt_0 : decode cX4_callAt 0 = .ok (.iload_n 1, 1) := by decide +kernel
theorem dX4_callAt_1 : decode cX4_callAt 1 = .ok (.ifCond .lt 21, 3) := by decide +kernel
theorem dX4_callAt_4 : decode cX4_callAt 4 = .ok (.iload_n 1, 1) := by decide +kernel
theorem dX4_callAt_5 : decode cX4_callAt 5 = .ok (.aload_n 0, 1) := by decide +kernel
theorem dX4_callAt_6 : decode cX4_callAt 6 = .ok (.getfield 17, 3) := by decide +kernel
theorem dX4_callAt_9 : decode cX4_callAt 9 = .ok (.arraylength, 1) := by decide +kernel
theorem dX4_callAt_10 : decode cX4_callAt 10 = .ok (.if_icmp .ge 12, 3) := by decide +kernel
theorem dX4_callAt_13 : decode cX4_callAt 13 = .ok (.aload_n 0, 1) := by decide +kernel
theorem dX4_callAt_14 : decode cX4_callAt 14 = .ok (.getfield 17, 3) := by decide +kernel
theorem dX4_callAt_17 : decode cX4_callAt 17 = .ok (.iload_n 1, 1) := by decide +kernel
theorem dX4_callAt_18 : decode cX4_callAt 18 = .ok (.aaload, 1) := by decide +kernel
theorem dX4_callAt_19 : decode cX4_callAt 19 = .ok (.goto 4, 3) := by decide +kernel
theorem dX4_callAt_22 : decode cX4_callAt 22 = .ok (.aconst_null, 1) := by decide +kernel
theorem dX4_callAt_23 : decode cX4_callAt 23 = .ok (.areturn, 1) := by decide +kernel
theorem dX4_carrierAt_0 : decode cX4_carrierAt 0 = .ok (.iload_n 1, 1) := by decide +kernel
theorem dX4_carrierAt_1 : decode cX4_carrierAt 1 = .ok (.ifCond .lt 21, 3) := by decide +kernel
theorem dX4_carrierAt_4 : decode cX4_carrierAt 4 = .ok (.iload_n 1, 1) := by decide +kernel
theorem dX4_carrierAt_5 : decode cX4_carrierAt 5 = .ok (.aload_n 0, 1) := by decide +kernel
theorem dX4_carrierAt_6 : decode cX4_carrierAt 6 = .ok (.getfield 33, 3) := by decide +kernel
theorem dX4_carrierAt_9 : decode cX4_carrierAt 9 = .ok (.arraylength, 1) := by decide +kernel
theorem dX4_carrierAt_10 : decode cX4_carrierAt 10 = .ok (.if_icmp .ge 12, 3) := by decide +kernel
theorem dX4_carrierAt_13 : decode cX4_carrierAt 13 = .ok (.aload_n 0, 1) := by decide +kernel
theorem dX4_carrierAt_14 : decode cX4_carrierAt 14 = .ok (.getfield 33, 3) := by decide +kernel
theorem dX4_carrierAt_17 : decode cX4_carrierAt 17 = .ok (.iload_n 1, 1) := by decide +kernel
theorem dX4_carrierAt_18 : decode cX4_carrierAt 18 = .ok (.aaload, 1) := by decide +kernel
theorem dX4_carrierAt_19 : decode cX4_carrierAt 19 = .ok (.goto 4, 3) := by decide +kernel
theorem dX4_carrierAt_22 : decode cX4_carrierAt 22 = .ok (.aconst_null, 1) := by decide +kernel
theorem dX4_carrierAt_23 : decode cX4_carrierAt 23 = .ok (.areturn, 1) := by decide +kernel
set_option maxRecDepth 20000 in
theorem ggX4_callJoinedBy_X0_hasLegFrom : GoodIn wsX4_callJoinedBy wsX0_hasLegFrom := goodIn_r _ [8, 9, 28, 29, 30, 31, 32, 33, 34, 35] (by decide +kernel) (by decide +kernel)
set_option maxRecDepth 20000 in
theorem gX4_callJoinedBy_X0_hasLegFrom : GoodIn wsX4_callJoinedBy (wsV RX4 236 RX0 yX0_hasLegFrom wsX0_hasLegFrom) := goodIn_app (goodIn_of _ (by decide +kernel)) ggX4_callJoinedBy_X0_hasLegFrom
set_option maxRecDepth 20000 in
theorem ggX4_callJoinedBy_X0_beganWithin : GoodIn wsX4_callJoinedBy wsX0_beganWithin := goodIn_r _ [13, 14, 15, 16, 17, 18, 19, 28, 29, 30, 31, 32, 33, 34, 35] (by decide +kernel) (by decide +kernel)
set_option maxRecDepth 20000 in
theorem gX4_callJoinedBy_X0_beganWithin : GoodIn wsX4_callJoinedBy (wsV RX4 239 RX0 yX0_beganWithin wsX0_beganWithin) := goodIn_app (goodIn_of _ (by decide +kernel)) ggX4_callJoinedBy_X0_beganWithin
theorem dX4_callJoinedBy_0 : decode cX4_callJoinedBy 0 = .ok (.aload_n 0, 1) := by decide +kernel
theorem dX4_callJoinedBy_1 : decode cX4_callJoinedBy 1 = .ok (.getfield 17, 3) := by decide +kernel
theorem dX4_callJoinedBy_4 : decode cX4_callJoinedBy 4 = .ok (.astore 5, 2) := by decide +kernel
theorem dX4_callJoinedBy_6 : decode cX4_callJoinedBy 6 = .ok (.aload 5, 2) := by decide +kernel
theorem dX4_callJoinedBy_8 : decode cX4_callJoinedBy 8 = .ok (.arraylength, 1) := by decide +kernel
theorem dX4_callJoinedBy_9 : decode cX4_callJoinedBy 9 = .ok (.istore 6, 2) := by decide +kernel
theorem dX4_callJoinedBy_11 : decode cX4_callJoinedBy 11 = .ok (.iconst 0, 1) := by decide +kernel
theorem dX4_callJoinedBy_12 : decode cX4_callJoinedBy 12 = .ok (.istore 7, 2) := by decide +kernel
theorem dX4_callJoinedBy_14 : decode cX4_callJoinedBy 14 = .ok (.iload 7, 2) := by decide +kernel
theorem dX4_callJoinedBy_16 : decode cX4_callJoinedBy 16 = .ok (.iload 6, 2) := by decide +kernel
theorem dX4_callJoinedBy_18 : decode cX4_callJoinedBy 18 = .ok (.if_icmp .ge 57, 3) := by decide +kernel
theorem dX4_callJoinedBy_21 : decode cX4_callJoinedBy 21 = .ok (.aload 5, 2) := by decide +kernel
theorem dX4_callJoinedBy_23 : decode cX4_callJoinedBy 23 = .ok (.iload 7, 2) := by decide +kernel
theorem dX4_callJoinedBy_25 : decode cX4_callJoinedBy 25 = .ok (.aaload, 1) := by decide +kernel
theorem dX4_callJoinedBy_26 : decode cX4_callJoinedBy 26 = .ok (.astore 8, 2) := by decide +kernel
theorem dX4_callJoinedBy_28 : decode cX4_callJoinedBy 28 = .ok (.aload 8, 2) := by decide +kernel
theorem dX4_callJoinedBy_30 : decode cX4_callJoinedBy 30 = .ok (.ifnull 39, 3) := by decide +kernel
theorem dX4_callJoinedBy_33 : decode cX4_callJoinedBy 33 = .ok (.aload 8, 2) := by decide +kernel
theorem dX4_callJoinedBy_35 : decode cX4_callJoinedBy 35 = .ok (.getfield 166, 3) := by decide +kernel
theorem dX4_callJoinedBy_38 : decode cX4_callJoinedBy 38 = .ok (.iload_n 2, 1) := by decide +kernel
theorem dX4_callJoinedBy_39 : decode cX4_callJoinedBy 39 = .ok (.if_icmp .ne 30, 3) := by decide +kernel
theorem dX4_callJoinedBy_42 : decode cX4_callJoinedBy 42 = .ok (.aload 8, 2) := by decide +kernel
theorem dX4_callJoinedBy_44 : decode cX4_callJoinedBy 44 = .ok (.iload_n 1, 1) := by decide +kernel
theorem dX4_callJoinedBy_45 : decode cX4_callJoinedBy 45 = .ok (.invokevirtual 236, 3) := by decide +kernel
theorem dX4_callJoinedBy_48 : decode cX4_callJoinedBy 48 = .ok (.ifCond .ne 21, 3) := by decide +kernel
theorem dX4_callJoinedBy_51 : decode cX4_callJoinedBy 51 = .ok (.aload 8, 2) := by decide +kernel
theorem dX4_callJoinedBy_53 : decode cX4_callJoinedBy 53 = .ok (.aload_n 0, 1) := by decide +kernel
theorem dX4_callJoinedBy_54 : decode cX4_callJoinedBy 54 = .ok (.getfield 21, 3) := by decide +kernel
theorem dX4_callJoinedBy_57 : decode cX4_callJoinedBy 57 = .ok (.iload_n 3, 1) := by decide +kernel
theorem dX4_callJoinedBy_58 : decode cX4_callJoinedBy 58 = .ok (.iload 4, 2) := by decide +kernel
theorem dX4_callJoinedBy_60 : decode cX4_callJoinedBy 60 = .ok (.invokevirtual 239, 3) := by decide +kernel
theorem dX4_callJoinedBy_63 : decode cX4_callJoinedBy 63 = .ok (.ifCond .eq 6, 3) := by decide +kernel
theorem dX4_callJoinedBy_66 : decode cX4_callJoinedBy 66 = .ok (.aload 8, 2) := by decide +kernel
theorem dX4_callJoinedBy_68 : decode cX4_callJoinedBy 68 = .ok (.areturn, 1) := by decide +kernel
theorem dX4_callJoinedBy_69 : decode cX4_callJoinedBy 69 = .ok (.iinc 7 1, 3) := by decide +kernel
theorem dX4_callJoinedBy_72 : decode cX4_callJoinedBy 72 = .ok (.goto (-58), 3) := by decide +kernel
theorem dX4_callJoinedBy_75 : decode cX4_callJoinedBy 75 = .ok (.aconst_null, 1) := by decide +kernel
theorem dX4_callJoinedBy_76 : decode cX4_callJoinedBy 76 = .ok (.areturn, 1) := by decide +kernel
set_option maxRecDepth 20000 in
theorem ggX4_newCall_X0_init : GoodIn wsX4_newCall wsX0_init := goodIn_r _ [8, 9, 10, 11, 12, 13, 14, 15, 16, 25, 26, 27, 28, 29, 30, 31, 32] (by decide +kernel) (by decide +kernel)
set_option maxRecDepth 20000 in
theorem gX4_newCall_X0_init : GoodIn wsX4_newCall (wsX0_init) := ggX4_newCall_X0_init
theorem dX4_newCall_0 : decode cX4_newCall 0 = .ok (.aload_n 0, 1) := by decide +kernel
theorem dX4_newCall_1 : decode cX4_newCall 1 = .ok (.getfield 97, 3) := by decide +kernel
theorem dX4_newCall_4 : decode cX4_newCall 4 = .ok (.istore 4, 2) := by decide +kernel
theorem dX4_newCall_6 : decode cX4_newCall 6 = .ok (.iload 4, 2) := by decide +kernel
theorem dX4_newCall_8 : decode cX4_newCall 8 = .ok (.aload_n 0, 1) := by decide +kernel
theorem dX4_newCall_9 : decode cX4_newCall 9 = .ok (.getfield 17, 3) := by decide +kernel
theorem dX4_newCall_12 : decode cX4_newCall 12 = .ok (.arraylength, 1) := by decide +kernel
theorem dX4_newCall_13 : decode cX4_newCall 13 = .ok (.if_icmp .lt 5, 3) := by decide +kernel
theorem dX4_newCall_16 : decode cX4_newCall 16 = .ok (.aconst_null, 1) := by decide +kernel
theorem dX4_newCall_17 : decode cX4_newCall 17 = .ok (.areturn, 1) := by decide +kernel
theorem dX4_newCall_18 : decode cX4_newCall 18 = .ok (.new 15, 3) := by decide +kernel
theorem dX4_newCall_21 : decode cX4_newCall 21 = .ok (.dup, 1) := by decide +kernel
theorem dX4_newCall_22 : decode cX4_newCall 22 = .ok (.iload 4, 2) := by decide +kernel
theorem dX4_newCall_24 : decode cX4_newCall 24 = .ok (.iload_n 1, 1) := by decide +kernel
theorem dX4_newCall_25 : decode cX4_newCall 25 = .ok (.iload_n 2, 1) := by decide +kernel
theorem dX4_newCall_26 : decode cX4_newCall 26 = .ok (.iload_n 3, 1) := by decide +kernel
theorem dX4_newCall_27 : decode cX4_newCall 27 = .ok (.invokespecial 242, 3) := by decide +kernel
theorem dX4_newCall_30 : decode cX4_newCall 30 = .ok (.astore 5, 2) := by decide +kernel
theorem dX4_newCall_32 : decode cX4_newCall 32 = .ok (.aload_n 0, 1) := by decide +kernel
theorem dX4_newCall_33 : decode cX4_newCall 33 = .ok (.getfield 17, 3) := by decide +kernel
theorem dX4_newCall_36 : decode cX4_newCall 36 = .ok (.iload 4, 2) := by decide +kernel
theorem dX4_newCall_38 : decode cX4_newCall 38 = .ok (.aload 5, 2) := by decide +kernel
theorem dX4_newCall_40 : decode cX4_newCall 40 = .ok (.aastore, 1) := by decide +kernel
theorem dX4_newCall_41 : decode cX4_newCall 41 = .ok (.aload_n 0, 1) := by decide +kernel
theorem dX4_newCall_42 : decode cX4_newCall 42 = .ok (.dup, 1) := by decide +kernel
theorem dX4_newCall_43 : decode cX4_newCall 43 = .ok (.getfield 97, 3) := by decide +kernel
theorem dX4_newCall_46 : decode cX4_newCall 46 = .ok (.iconst 1, 1) := by decide +kernel
theorem dX4_newCall_47 : decode cX4_newCall 47 = .ok (.iadd, 1) := by decide +kernel
theorem dX4_newCall_48 : decode cX4_newCall 48 = .ok (.putfield 97, 3) := by decide +kernel
theorem dX4_newCall_51 : decode cX4_newCall 51 = .ok (.aload 5, 2) := by decide +kernel
theorem dX4_newCall_53 : decode cX4_newCall 53 = .ok (.areturn, 1) := by decide +kernel
set_option maxRecDepth 20000 in
theorem ggX4_rateInForce_X4_fits : GoodIn wsX4_rateInForce wsX4_fits := goodIn_r _ [7] (by decide +kernel) (by decide +kernel)
set_option maxRecDepth 20000 in
theorem gX4_rateInForce_X4_fits : GoodIn wsX4_rateInForce (va_wsS RX4 169 yX4_fits wsX4_fits) := goodIn_app (goodIn_of _ (by decide +kernel)) ggX4_rateInForce_X4_fits
set_option maxRecDepth 20000 in
theorem ggX4_rateInForce_X2_goesBefore : GoodIn wsX4_rateInForce wsX2_goesBefore := goodIn_r _ [12, 13, 14, 15, 24, 25, 26, 27, 28, 29, 30] (by decide +kernel) (by decide +kernel)
set_option maxRecDepth 20000 in
theorem gX4_rateInForce_X2_goesBefore : GoodIn wsX4_rateInForce (wsV RX4 251 RX2 yX2_goesBefore wsX2_goesBefore) := goodIn_app (goodIn_of _ (by decide +kernel)) ggX4_rateInForce_X2_goesBefore
theorem dX4_rateInForce_0 : decode cX4_rateInForce 0 = .ok (.aconst_null, 1) := by decide +kernel
theorem dX4_rateInForce_1 : decode cX4_rateInForce 1 = .ok (.astore_n 3, 1) := by decide +kernel
theorem dX4_rateInForce_2 : decode cX4_rateInForce 2 = .ok (.aload_n 0, 1) := by decide +kernel
theorem dX4_rateInForce_3 : decode cX4_rateInForce 3 = .ok (.getfield 27, 3) := by decide +kernel
theorem dX4_rateInForce_6 : decode cX4_rateInForce 6 = .ok (.astore 4, 2) := by decide +kernel
theorem dX4_rateInForce_8 : decode cX4_rateInForce 8 = .ok (.aload 4, 2) := by decide +kernel
theorem dX4_rateInForce_10 : decode cX4_rateInForce 10 = .ok (.arraylength, 1) := by decide +kernel
theorem dX4_rateInForce_11 : decode cX4_rateInForce 11 = .ok (.istore 5, 2) := by decide +kernel
theorem dX4_rateInForce_13 : decode cX4_rateInForce 13 = .ok (.iconst 0, 1) := by decide +kernel
theorem dX4_rateInForce_14 : decode cX4_rateInForce 14 = .ok (.istore 6, 2) := by decide +kernel
theorem dX4_rateInForce_16 : decode cX4_rateInForce 16 = .ok (.iload 6, 2) := by decide +kernel
theorem dX4_rateInForce_18 : decode cX4_rateInForce 18 = .ok (.iload 5, 2) := by decide +kernel
theorem dX4_rateInForce_20 : decode cX4_rateInForce 20 = .ok (.if_icmp .ge 58, 3) := by decide +kernel
theorem dX4_rateInForce_23 : decode cX4_rateInForce 23 = .ok (.aload 4, 2) := by decide +kernel
theorem dX4_rateInForce_25 : decode cX4_rateInForce 25 = .ok (.iload 6, 2) := by decide +kernel
theorem dX4_rateInForce_27 : decode cX4_rateInForce 27 = .ok (.aaload, 1) := by decide +kernel
theorem dX4_rateInForce_28 : decode cX4_rateInForce 28 = .ok (.astore 7, 2) := by decide +kernel
theorem dX4_rateInForce_30 : decode cX4_rateInForce 30 = .ok (.aload 7, 2) := by decide +kernel
theorem dX4_rateInForce_32 : decode cX4_rateInForce 32 = .ok (.ifnull 40, 3) := by decide +kernel
theorem dX4_rateInForce_35 : decode cX4_rateInForce 35 = .ok (.aload 7, 2) := by decide +kernel
theorem dX4_rateInForce_37 : decode cX4_rateInForce 37 = .ok (.getfield 245, 3) := by decide +kernel
theorem dX4_rateInForce_40 : decode cX4_rateInForce 40 = .ok (.iload_n 2, 1) := by decide +kernel
theorem dX4_rateInForce_41 : decode cX4_rateInForce 41 = .ok (.if_icmp .gt 31, 3) := by decide +kernel
theorem dX4_rateInForce_44 : decode cX4_rateInForce 44 = .ok (.aload 7, 2) := by decide +kernel
theorem dX4_rateInForce_46 : decode cX4_rateInForce 46 = .ok (.getfield 248, 3) := by decide +kernel
theorem dX4_rateInForce_49 : decode cX4_rateInForce 49 = .ok (.iload_n 1, 1) := by decide +kernel
theorem dX4_rateInForce_50 : decode cX4_rateInForce 50 = .ok (.invokestatic 169, 3) := by decide +kernel
theorem dX4_rateInForce_53 : decode cX4_rateInForce 53 = .ok (.ifCond .eq 19, 3) := by decide +kernel
theorem dX4_rateInForce_56 : decode cX4_rateInForce 56 = .ok (.aload_n 3, 1) := by decide +kernel
theorem dX4_rateInForce_57 : decode cX4_rateInForce 57 = .ok (.ifnull 12, 3) := by decide +kernel
theorem dX4_rateInForce_60 : decode cX4_rateInForce 60 = .ok (.aload 7, 2) := by decide +kernel
theorem dX4_rateInForce_62 : decode cX4_rateInForce 62 = .ok (.aload_n 3, 1) := by decide +kernel
theorem dX4_rateInForce_63 : decode cX4_rateInForce 63 = .ok (.invokevirtual 251, 3) := by decide +kernel
theorem dX4_rateInForce_66 : decode cX4_rateInForce 66 = .ok (.ifCond .eq 6, 3) := by decide +kernel
theorem dX4_rateInForce_69 : decode cX4_rateInForce 69 = .ok (.aload 7, 2) := by decide +kernel
theorem dX4_rateInForce_71 : decode cX4_rateInForce 71 = .ok (.astore_n 3, 1) := by decide +kernel
theorem dX4_rateInForce_72 : decode cX4_rateInForce 72 = .ok (.iinc 6 1, 3) := by decide +kernel
theorem dX4_rateInForce_75 : decode cX4_rateInForce 75 = .ok (.goto (-59), 3) := by decide +kernel
theorem dX4_rateInForce_78 : decode cX4_rateInForce 78 = .ok (.aload_n 3, 1) := by decide +kernel
theorem dX4_rateInForce_79 : decode cX4_rateInForce 79 = .ok (.areturn, 1) := by decide +kernel
set_option maxRecDepth 20000 in
theorem ggX4_chargeNow_X0_day : GoodIn wsX4_chargeNow wsX0_day := goodIn_r _ [7, 8, 43, 44, 45, 46, 47, 48, 49, 50] (by decide +kernel) (by decide +kernel)
set_option maxRecDepth 20000 in
theorem gX4_chargeNow_X0_day : GoodIn wsX4_chargeNow (wsV RX4 255 RX0 yX0_day wsX0_day) := goodIn_app (goodIn_of _ (by decide +kernel)) ggX4_chargeNow_X0_day
set_option maxRecDepth 20000 in
theorem ggX4_chargeNow_X4_rateInForce : GoodIn wsX4_chargeNow wsX4_rateInForce := goodIn_r _ [13, 14, 15, 16, 17, 18, 12, 19, 20, 21, 22, 23, 24, 25, 26, 27, 51, 52, 53, 54, 55, 56, 57, 58, 59, 60, 61, 62, 63, 64, 65] (by decide +kernel) (by decide +kernel)
set_option maxRecDepth 20000 in
theorem gX4_chargeNow_X4_rateInForce : GoodIn wsX4_chargeNow (wsV RX4 133 RX4 yX4_rateInForce wsX4_rateInForce) := goodIn_app (goodIn_of _ (by decide +kernel)) ggX4_chargeNow_X4_rateInForce
set_option maxRecDepth 20000 in
theorem ggX4_chargeNow_X2_chargeFor : GoodIn wsX4_chargeNow wsX2_chargeFor := goodIn_r _ [31, 32, 33, 34, 35, 36, 37, 38, 39, 40, 41, 23, 42, 59, 60, 61, 62, 63, 64, 65] (by decide +kernel) (by decide +kernel)
set_option maxRecDepth 20000 in
theorem gX4_chargeNow_X2_chargeFor : GoodIn wsX4_chargeNow (wsV RX4 257 RX2 yX2_chargeFor wsX2_chargeFor) := goodIn_app (goodIn_of _ (by decide +kernel)) ggX4_chargeNow_X2_chargeFor
theorem dX4_chargeNow_0 : decode cX4_chargeNow 0 = .ok (.aload_n 0, 1) := by decide +kernel
theorem dX4_chargeNow_1 : decode cX4_chargeNow 1 = .ok (.aload_n 1, 1) := by decide +kernel
theorem dX4_chargeNow_2 : decode cX4_chargeNow 2 = .ok (.getfield 166, 3) := by decide +kernel
theorem dX4_chargeNow_5 : decode cX4_chargeNow 5 = .ok (.aload_n 1, 1) := by decide +kernel
theorem dX4_chargeNow_6 : decode cX4_chargeNow 6 = .ok (.invokevirtual 255, 3) := by decide +kernel
theorem dX4_chargeNow_9 : decode cX4_chargeNow 9 = .ok (.invokevirtual 133, 3) := by decide +kernel
theorem dX4_chargeNow_12 : decode cX4_chargeNow 12 = .ok (.astore_n 2, 1) := by decide +kernel
theorem dX4_chargeNow_13 : decode cX4_chargeNow 13 = .ok (.aload_n 2, 1) := by decide +kernel
theorem dX4_chargeNow_14 : decode cX4_chargeNow 14 = .ok (.ifnonnull 7, 3) := by decide +kernel
theorem dX4_chargeNow_17 : decode cX4_chargeNow 17 = .ok (.iconst (-1), 1) := by decide +kernel
theorem dX4_chargeNow_18 : decode cX4_chargeNow 18 = .ok (.goto 11, 3) := by decide +kernel
theorem dX4_chargeNow_21 : decode cX4_chargeNow 21 = .ok (.aload_n 2, 1) := by decide +kernel
theorem dX4_chargeNow_22 : decode cX4_chargeNow 22 = .ok (.aload_n 1, 1) := by decide +kernel
theorem dX4_chargeNow_23 : decode cX4_chargeNow 23 = .ok (.getfield 112, 3) := by decide +kernel
theorem dX4_chargeNow_26 : decode cX4_chargeNow 26 = .ok (.invokevirtual 257, 3) := by decide +kernel
theorem dX4_chargeNow_29 : decode cX4_chargeNow 29 = .ok (.ireturn, 1) := by decide +kernel
set_option maxRecDepth 20000 in
theorem ggX4_changeByCorrecting_X4_chargeNow : GoodIn wsX4_changeByCorrecting wsX4_chargeNow := goodIn_r _ [7, 8, 9, 10, 11, 12, 13, 14, 15, 16, 17, 18, 6, 19, 20, 21, 22, 23, 24, 25, 26, 27, 28, 29, 30, 31, 32, 33, 34, 35, 36, 37, 38, 39, 40, 41, 42, 43, 44, 45, 46, 47, 48, 49, 50, 51, 52, 53, 54, 55, 56, 57, 58, 59, 60, 61, 62, 63, 64, 65, 66, 67, 68, 69, 70, 71] (by decide +kernel) (by decide +kernel)
set_option maxRecDepth 20000 in
theorem gX4_changeByCorrecting_X4_chargeNow : GoodIn wsX4_changeByCorrecting (wsV RX4 143 RX4 yX4_chargeNow wsX4_chargeNow) := goodIn_app (goodIn_of _ (by decide +kernel)) ggX4_changeByCorrecting_X4_chargeNow
theorem dX4_changeByCorrecting_0 : decode cX4_changeByCorrecting 0 = .ok (.aload_n 0, 1) := by decide +kernel
theorem dX4_changeByCorrecting_1 : decode cX4_changeByCorrecting 1 = .ok (.aload_n 1, 1) := by decide +kernel
theorem dX4_changeByCorrecting_2 : decode cX4_changeByCorrecting 2 = .ok (.invokevirtual 143, 3) := by decide +kernel
theorem dX4_changeByCorrecting_5 : decode cX4_changeByCorrecting 5 = .ok (.istore_n 2, 1) := by decide +kernel
theorem dX4_changeByCorrecting_6 : decode cX4_changeByCorrecting 6 = .ok (.iload_n 2, 1) := by decide +kernel
theorem dX4_changeByCorrecting_7 : decode cX4_changeByCorrecting 7 = .ok (.iconst (-1), 1) := by decide +kernel
theorem dX4_changeByCorrecting_8 : decode cX4_changeByCorrecting 8 = .ok (.if_icmp .eq 11, 3) := by decide +kernel
theorem dX4_changeByCorrecting_11 : decode cX4_changeByCorrecting 11 = .ok (.iload_n 2, 1) := by decide +kernel
theorem dX4_changeByCorrecting_12 : decode cX4_changeByCorrecting 12 = .ok (.aload_n 1, 1) := by decide +kernel
theorem dX4_changeByCorrecting_13 : decode cX4_changeByCorrecting 13 = .ok (.getfield 153, 3) := by decide +kernel
theorem dX4_changeByCorrecting_16 : decode cX4_changeByCorrecting 16 = .ok (.if_icmp .ne 5, 3) := by decide +kernel
theorem dX4_changeByCorrecting_19 : decode cX4_changeByCorrecting 19 = .ok (.iconst 0, 1) := by decide +kernel
theorem dX4_changeByCorrecting_20 : decode cX4_changeByCorrecting 20 = .ok (.ireturn, 1) := by decide +kernel
theorem dX4_changeByCorrecting_21 : decode cX4_changeByCorrecting 21 = .ok (.iload_n 2, 1) := by decide +kernel
theorem dX4_changeByCorrecting_22 : decode cX4_changeByCorrecting 22 = .ok (.aload_n 1, 1) := by decide +kernel
theorem dX4_changeByCorrecting_23 : decode cX4_changeByCorrecting 23 = .ok (.getfield 153, 3) := by decide +kernel
theorem dX4_changeByCorrecting_26 : decode cX4_changeByCorrecting 26 = .ok (.isub, 1) := by decide +kernel
theorem dX4_changeByCorrecting_27 : decode cX4_changeByCorrecting 27 = .ok (.istore_n 3, 1) := by decide +kernel
theorem dX4_changeByCorrecting_28 : decode cX4_changeByCorrecting 28 = .ok (.aload_n 1, 1) := by decide +kernel
theorem dX4_changeByCorrecting_29 : decode cX4_changeByCorrecting 29 = .ok (.iload_n 2, 1) := by decide +kernel
theorem dX4_changeByCorrecting_30 : decode cX4_changeByCorrecting 30 = .ok (.putfield 153, 3) := by decide +kernel
theorem dX4_changeByCorrecting_33 : decode cX4_changeByCorrecting 33 = .ok (.aload_n 0, 1) := by decide +kernel
theorem dX4_changeByCorrecting_34 : decode cX4_changeByCorrecting 34 = .ok (.dup, 1) := by decide +kernel
theorem dX4_changeByCorrecting_35 : decode cX4_changeByCorrecting 35 = .ok (.getfield 161, 3) := by decide +kernel
theorem dX4_changeByCorrecting_38 : decode cX4_changeByCorrecting 38 = .ok (.iconst 1, 1) := by decide +kernel
theorem dX4_changeByCorrecting_39 : decode cX4_changeByCorrecting 39 = .ok (.iadd, 1) := by decide +kernel
theorem dX4_changeByCorrecting_40 : decode cX4_changeByCorrecting 40 = .ok (.putfield 161, 3) := by decide +kernel
theorem dX4_changeByCorrecting_43 : decode cX4_changeByCorrecting 43 = .ok (.iload_n 3, 1) := by decide +kernel
theorem dX4_changeByCorrecting_44 : decode cX4_changeByCorrecting 44 = .ok (.ireturn, 1) := by decide +kernel
set_option maxRecDepth 20000 in
theorem ggX4_carrierOfRank_X4_priceOf : GoodIn wsX4_carrierOfRank wsX4_priceOf := goodIn_r _ [6, 7, 8, 9, 5, 10, 1, 11, 12, 13, 14, 15, 16, 17, 18, 19, 24, 25, 26, 27, 28, 29, 30, 31, 32, 33] (by decide +kernel) (by decide +kernel)
set_option maxRecDepth 20000 in
theorem gX4_carrierOfRank_X4_priceOf : GoodIn wsX4_carrierOfRank (wsV RX4 260 RX4 yX4_priceOf wsX4_priceOf) := goodIn_app (goodIn_of _ (by decide +kernel)) ggX4_carrierOfRank_X4_priceOf
set_option maxRecDepth 20000 in
theorem ggX4_carrierOfRank_X4_carriersBefore : GoodIn wsX4_carrierOfRank wsX4_carriersBefore := goodIn_r _ [23, 1, 2, 3, 4, 5, 6, 7, 8, 9, 10, 11, 12, 13, 14, 15, 16, 17, 18, 19, 24, 25, 26, 27, 28, 29, 30, 31, 32, 33] (by decide +kernel) (by decide +kernel)
set_option maxRecDepth 20000 in
theorem gX4_carrierOfRank_X4_carriersBefore : GoodIn wsX4_carrierOfRank (wsV RX4 263 RX4 yX4_carriersBefore wsX4_carriersBefore) := goodIn_app (goodIn_of _ (by decide +kernel)) ggX4_carrierOfRank_X4_carriersBefore
theorem dX4_carrierOfRank_0 : decode cX4_carrierOfRank 0 = .ok (.iconst 0, 1) := by decide +kernel
theorem dX4_carrierOfRank_1 : decode cX4_carrierOfRank 1 = .ok (.istore 4, 2) := by decide +kernel
theorem dX4_carrierOfRank_3 : decode cX4_carrierOfRank 3 = .ok (.iload 4, 2) := by decide +kernel
theorem dX4_carrierOfRank_5 : decode cX4_carrierOfRank 5 = .ok (.aload_n 0, 1) := by decide +kernel
theorem dX4_carrierOfRank_6 : decode cX4_carrierOfRank 6 = .ok (.getfield 33, 3) := by decide +kernel
theorem dX4_carrierOfRank_9 : decode cX4_carrierOfRank 9 = .ok (.arraylength, 1) := by decide +kernel
theorem dX4_carrierOfRank_10 : decode cX4_carrierOfRank 10 = .ok (.if_icmp .ge 46, 3) := by decide +kernel
theorem dX4_carrierOfRank_13 : decode cX4_carrierOfRank 13 = .ok (.aload_n 0, 1) := by decide +kernel
theorem dX4_carrierOfRank_14 : decode cX4_carrierOfRank 14 = .ok (.iload 4, 2) := by decide +kernel
theorem dX4_carrierOfRank_16 : decode cX4_carrierOfRank 16 = .ok (.iload_n 1, 1) := by decide +kernel
theorem dX4_carrierOfRank_17 : decode cX4_carrierOfRank 17 = .ok (.invokevirtual 260, 3) := by decide +kernel
theorem dX4_carrierOfRank_20 : decode cX4_carrierOfRank 20 = .ok (.istore 5, 2) := by decide +kernel
theorem dX4_carrierOfRank_22 : decode cX4_carrierOfRank 22 = .ok (.iload 5, 2) := by decide +kernel
theorem dX4_carrierOfRank_24 : decode cX4_carrierOfRank 24 = .ok (.iconst (-1), 1) := by decide +kernel
theorem dX4_carrierOfRank_25 : decode cX4_carrierOfRank 25 = .ok (.if_icmp .eq 25, 3) := by decide +kernel
theorem dX4_carrierOfRank_28 : decode cX4_carrierOfRank 28 = .ok (.iload 5, 2) := by decide +kernel
theorem dX4_carrierOfRank_30 : decode cX4_carrierOfRank 30 = .ok (.iload_n 2, 1) := by decide +kernel
theorem dX4_carrierOfRank_31 : decode cX4_carrierOfRank 31 = .ok (.if_icmp .gt 19, 3) := by decide +kernel
theorem dX4_carrierOfRank_34 : decode cX4_carrierOfRank 34 = .ok (.aload_n 0, 1) := by decide +kernel
theorem dX4_carrierOfRank_35 : decode cX4_carrierOfRank 35 = .ok (.iload 4, 2) := by decide +kernel
theorem dX4_carrierOfRank_37 : decode cX4_carrierOfRank 37 = .ok (.iload 5, 2) := by decide +kernel
theorem dX4_carrierOfRank_39 : decode cX4_carrierOfRank 39 = .ok (.iload_n 1, 1) := by decide +kernel
theorem dX4_carrierOfRank_40 : decode cX4_carrierOfRank 40 = .ok (.invokevirtual 263, 3) := by decide +kernel
theorem dX4_carrierOfRank_43 : decode cX4_carrierOfRank 43 = .ok (.iload_n 3, 1) := by decide +kernel
theorem dX4_carrierOfRank_44 : decode cX4_carrierOfRank 44 = .ok (.if_icmp .ne 6, 3) := by decide +kernel
theorem dX4_carrierOfRank_47 : decode cX4_carrierOfRank 47 = .ok (.iload 4, 2) := by decide +kernel
theorem dX4_carrierOfRank_49 : decode cX4_carrierOfRank 49 = .ok (.ireturn, 1) := by decide +kernel
theorem dX4_carrierOfRank_50 : decode cX4_carrierOfRank 50 = .ok (.iinc 4 1, 3) := by decide +kernel
theorem dX4_carrierOfRank_53 : decode cX4_carrierOfRank 53 = .ok (.goto (-50), 3) := by decide +kernel
theorem dX4_carrierOfRank_56 : decode cX4_carrierOfRank 56 = .ok (.iconst (-1), 1) := by decide +kernel
theorem dX4_carrierOfRank_57 : decode cX4_carrierOfRank 57 = .ok (.ireturn, 1) := by decide +kernel
set_option maxRecDepth 20000 in
theorem ggX4_carriersBefore_X4_priceOf : GoodIn wsX4_carriersBefore wsX4_priceOf := goodIn_r _ [6, 7, 8, 9, 5, 10, 1, 11, 12, 13, 14, 15, 16, 17, 18, 19, 20, 21, 22, 23, 24, 25, 26, 27, 28, 29] (by decide +kernel) (by decide +kernel)
set_option maxRecDepth 20000 in
theorem gX4_carriersBefore_X4_priceOf : GoodIn wsX4_carriersBefore (wsV RX4 260 RX4 yX4_priceOf wsX4_priceOf) := goodIn_app (goodIn_of _ (by decide +kernel)) ggX4_carriersBefore_X4_priceOf
theorem dX4_carriersBefore_0 : decode cX4_carriersBefore 0 = .ok (.iconst 0, 1) := by decide +kernel
theorem dX4_carriersBefore_1 : decode cX4_carriersBefore 1 = .ok (.istore 4, 2) := by decide +kernel
theorem dX4_carriersBefore_3 : decode cX4_carriersBefore 3 = .ok (.iconst 0, 1) := by decide +kernel
theorem dX4_carriersBefore_4 : decode cX4_carriersBefore 4 = .ok (.istore 5, 2) := by decide +kernel
theorem dX4_carriersBefore_6 : decode cX4_carriersBefore 6 = .ok (.iload 5, 2) := by decide +kernel
theorem dX4_carriersBefore_8 : decode cX4_carriersBefore 8 = .ok (.aload_n 0, 1) := by decide +kernel
theorem dX4_carriersBefore_9 : decode cX4_carriersBefore 9 = .ok (.getfield 33, 3) := by decide +kernel
theorem dX4_carriersBefore_12 : decode cX4_carriersBefore 12 = .ok (.arraylength, 1) := by decide +kernel
theorem dX4_carriersBefore_13 : decode cX4_carriersBefore 13 = .ok (.if_icmp .ge 45, 3) := by decide +kernel
theorem dX4_carriersBefore_16 : decode cX4_carriersBefore 16 = .ok (.aload_n 0, 1) := by decide +kernel
theorem dX4_carriersBefore_17 : decode cX4_carriersBefore 17 = .ok (.iload 5, 2) := by decide +kernel
theorem dX4_carriersBefore_19 : decode cX4_carriersBefore 19 = .ok (.iload_n 3, 1) := by decide +kernel
theorem dX4_carriersBefore_20 : decode cX4_carriersBefore 20 = .ok (.invokevirtual 260, 3) := by decide +kernel
theorem dX4_carriersBefore_23 : decode cX4_carriersBefore 23 = .ok (.istore 6, 2) := by decide +kernel
theorem dX4_carriersBefore_25 : decode cX4_carriersBefore 25 = .ok (.iload 6, 2) := by decide +kernel
theorem dX4_carriersBefore_27 : decode cX4_carriersBefore 27 = .ok (.iconst (-1), 1) := by decide +kernel
theorem dX4_carriersBefore_28 : decode cX4_carriersBefore 28 = .ok (.if_icmp .eq 24, 3) := by decide +kernel
theorem dX4_carriersBefore_31 : decode cX4_carriersBefore 31 = .ok (.iload 6, 2) := by decide +kernel
theorem dX4_carriersBefore_33 : decode cX4_carriersBefore 33 = .ok (.iload_n 2, 1) := by decide +kernel
theorem dX4_carriersBefore_34 : decode cX4_carriersBefore 34 = .ok (.if_icmp .lt 15, 3) := by decide +kernel
theorem dX4_carriersBefore_37 : decode cX4_carriersBefore 37 = .ok (.iload 6, 2) := by decide +kernel
theorem dX4_carriersBefore_39 : decode cX4_carriersBefore 39 = .ok (.iload_n 2, 1) := by decide +kernel
theorem dX4_carriersBefore_40 : decode cX4_carriersBefore 40 = .ok (.if_icmp .ne 12, 3) := by decide +kernel
theorem dX4_carriersBefore_43 : decode cX4_carriersBefore 43 = .ok (.iload 5, 2) := by decide +kernel
theorem dX4_carriersBefore_45 : decode cX4_carriersBefore 45 = .ok (.iload_n 1, 1) := by decide +kernel
theorem dX4_carriersBefore_46 : decode cX4_carriersBefore 46 = .ok (.if_icmp .ge 6, 3) := by decide +kernel
theorem dX4_carriersBefore_49 : decode cX4_carriersBefore 49 = .ok (.iinc 4 1, 3) := by decide +kernel
theorem dX4_carriersBefore_52 : decode cX4_carriersBefore 52 = .ok (.iinc 5 1, 3) := by decide +kernel
theorem dX4_carriersBefore_55 : decode cX4_carriersBefore 55 = .ok (.goto (-49), 3) := by decide +kernel
theorem dX4_carriersBefore_58 : decode cX4_carriersBefore 58 = .ok (.iload 4, 2) := by decide +kernel
theorem dX4_carriersBefore_60 : decode cX4_carriersBefore 60 = .ok (.ireturn, 1) := by decide +kernel
set_option maxRecDepth 20000 in
theorem ggX4_priceOf_X4_carrierAt : GoodIn wsX4_priceOf wsX4_carrierAt := goodIn_r _ [5, 6, 16, 17, 18, 19, 20, 21, 22, 23] (by decide +kernel) (by decide +kernel)
set_option maxRecDepth 20000 in
theorem gX4_priceOf_X4_carrierAt : GoodIn wsX4_priceOf (wsV RX4 176 RX4 yX4_carrierAt wsX4_carrierAt) := goodIn_app (goodIn_of _ (by decide +kernel)) ggX4_priceOf_X4_carrierAt
set_option maxRecDepth 20000 in
theorem ggX4_priceOf_X1_priceFor : GoodIn wsX4_priceOf wsX1_priceFor := goodIn_r _ [11, 12, 13, 14, 4, 15, 24, 25] (by decide +kernel) (by decide +kernel)
set_option maxRecDepth 20000 in
theorem gX4_priceOf_X1_priceFor : GoodIn wsX4_priceOf (wsV RX4 193 RX1 yX1_priceFor wsX1_priceFor) := goodIn_app (goodIn_of _ (by decide +kernel)) ggX4_priceOf_X1_priceFor
theorem dX4_priceOf_0 : decode cX4_priceOf 0 = .ok (.aload_n 0, 1) := by decide +kernel
theorem dX4_priceOf_1 : decode cX4_priceOf 1 = .ok (.iload_n 1, 1) := by decide +kernel
theorem dX4_priceOf_2 : decode cX4_priceOf 2 = .ok (.invokevirtual 176, 3) := by decide +kernel
theorem dX4_priceOf_5 : decode cX4_priceOf 5 = .ok (.astore_n 3, 1) := by decide +kernel
theorem dX4_priceOf_6 : decode cX4_priceOf 6 = .ok (.aload_n 3, 1) := by decide +kernel
theorem dX4_priceOf_7 : decode cX4_priceOf 7 = .ok (.ifnonnull 7, 3) := by decide +kernel
theorem dX4_priceOf_10 : decode cX4_priceOf 10 = .ok (.iconst (-1), 1) := by decide +kernel
theorem dX4_priceOf_11 : decode cX4_priceOf 11 = .ok (.goto 8, 3) := by decide +kernel
theorem dX4_priceOf_14 : decode cX4_priceOf 14 = .ok (.aload_n 3, 1) := by decide +kernel
theorem dX4_priceOf_15 : decode cX4_priceOf 15 = .ok (.iload_n 2, 1) := by decide +kernel
theorem dX4_priceOf_16 : decode cX4_priceOf 16 = .ok (.invokevirtual 193, 3) := by decide +kernel
theorem dX4_priceOf_19 : decode cX4_priceOf 19 = .ok (.ireturn, 1) := by decide +kernel
set_option maxRecDepth 20000 in
theorem ggX4_differenceUnder_X4_fits : GoodIn wsX4_differenceUnder wsX4_fits := goodIn_r _ [6] (by decide +kernel) (by decide +kernel)
set_option maxRecDepth 20000 in
theorem gX4_differenceUnder_X4_fits : GoodIn wsX4_differenceUnder (va_wsS RX4 169 yX4_fits wsX4_fits) := goodIn_app (goodIn_of _ (by decide +kernel)) ggX4_differenceUnder_X4_fits
set_option maxRecDepth 20000 in
theorem ggX4_differenceUnder_X0_disputed : GoodIn wsX4_differenceUnder wsX0_disputed := goodIn_r _ [11, 12, 13, 14, 15, 10, 16, 17, 18, 19, 20, 21, 30, 31, 32, 33, 34, 35, 36, 37] (by decide +kernel) (by decide +kernel)
set_option maxRecDepth 20000 in
theorem gX4_differenceUnder_X0_disputed : GoodIn wsX4_differenceUnder (wsV RX4 224 RX0 yX0_disputed wsX0_disputed) := goodIn_app (goodIn_of _ (by decide +kernel)) ggX4_differenceUnder_X0_disputed
theorem dX4_differenceUnder_0 : decode cX4_differenceUnder 0 = .ok (.iconst 0, 1) := by decide +kernel
theorem dX4_differenceUnder_1 : decode cX4_differenceUnder 1 = .ok (.istore_n 2, 1) := by decide +kernel
theorem dX4_differenceUnder_2 : decode cX4_differenceUnder 2 = .ok (.aload_n 0, 1) := by decide +kernel
theorem dX4_differenceUnder_3 : decode cX4_differenceUnder 3 = .ok (.getfield 17, 3) := by decide +kernel
theorem dX4_differenceUnder_6 : decode cX4_differenceUnder 6 = .ok (.astore_n 3, 1) := by decide +kernel
theorem dX4_differenceUnder_7 : decode cX4_differenceUnder 7 = .ok (.aload_n 3, 1) := by decide +kernel
theorem dX4_differenceUnder_8 : decode cX4_differenceUnder 8 = .ok (.arraylength, 1) := by decide +kernel
theorem dX4_differenceUnder_9 : decode cX4_differenceUnder 9 = .ok (.istore 4, 2) := by decide +kernel
theorem dX4_differenceUnder_11 : decode cX4_differenceUnder 11 = .ok (.iconst 0, 1) := by decide +kernel
theorem dX4_differenceUnder_12 : decode cX4_differenceUnder 12 = .ok (.istore 5, 2) := by decide +kernel
theorem dX4_differenceUnder_14 : decode cX4_differenceUnder 14 = .ok (.iload 5, 2) := by decide +kernel
theorem dX4_differenceUnder_16 : decode cX4_differenceUnder 16 = .ok (.iload 4, 2) := by decide +kernel
theorem dX4_differenceUnder_18 : decode cX4_differenceUnder 18 = .ok (.if_icmp .ge 40, 3) := by decide +kernel
theorem dX4_differenceUnder_21 : decode cX4_differenceUnder 21 = .ok (.aload_n 3, 1) := by decide +kernel
theorem dX4_differenceUnder_22 : decode cX4_differenceUnder 22 = .ok (.iload 5, 2) := by decide +kernel
theorem dX4_differenceUnder_24 : decode cX4_differenceUnder 24 = .ok (.aaload, 1) := by decide +kernel
theorem dX4_differenceUnder_25 : decode cX4_differenceUnder 25 = .ok (.astore 6, 2) := by decide +kernel
theorem dX4_differenceUnder_27 : decode cX4_differenceUnder 27 = .ok (.aload 6, 2) := by decide +kernel
theorem dX4_differenceUnder_29 : decode cX4_differenceUnder 29 = .ok (.ifnull 23, 3) := by decide +kernel
theorem dX4_differenceUnder_32 : decode cX4_differenceUnder 32 = .ok (.iload_n 1, 1) := by decide +kernel
theorem dX4_differenceUnder_33 : decode cX4_differenceUnder 33 = .ok (.aload 6, 2) := by decide +kernel
theorem dX4_differenceUnder_35 : decode cX4_differenceUnder 35 = .ok (.getfield 166, 3) := by decide +kernel
theorem dX4_differenceUnder_38 : decode cX4_differenceUnder 38 = .ok (.invokestatic 169, 3) := by decide +kernel
theorem dX4_differenceUnder_41 : decode cX4_differenceUnder 41 = .ok (.ifCond .eq 11, 3) := by decide +kernel
theorem dX4_differenceUnder_44 : decode cX4_differenceUnder 44 = .ok (.iload_n 2, 1) := by decide +kernel
theorem dX4_differenceUnder_45 : decode cX4_differenceUnder 45 = .ok (.aload 6, 2) := by decide +kernel
theorem dX4_differenceUnder_47 : decode cX4_differenceUnder 47 = .ok (.invokevirtual 224, 3) := by decide +kernel
theorem dX4_differenceUnder_50 : decode cX4_differenceUnder 50 = .ok (.iadd, 1) := by decide +kernel
theorem dX4_differenceUnder_51 : decode cX4_differenceUnder 51 = .ok (.istore_n 2, 1) := by decide +kernel
theorem dX4_differenceUnder_52 : decode cX4_differenceUnder 52 = .ok (.iinc 5 1, 3) := by decide +kernel
theorem dX4_differenceUnder_55 : decode cX4_differenceUnder 55 = .ok (.goto (-41), 3) := by decide +kernel
theorem dX4_differenceUnder_58 : decode cX4_differenceUnder 58 = .ok (.iload_n 2, 1) := by decide +kernel
theorem dX4_differenceUnder_59 : decode cX4_differenceUnder 59 = .ok (.ireturn, 1) := by decide +kernel
set_option maxRecDepth 20000 in
theorem ggX4_withWorstDigit_X4_differenceUnder : GoodIn wsX4_withWorstDigit wsX4_differenceUnder := goodIn_r _ [9, 10, 11, 12, 13, 8, 14, 15, 16, 17, 18, 19, 20, 21, 22, 23, 24, 25, 26, 27, 28, 29, 30, 31, 32, 33, 34, 35, 36, 37, 38, 39, 40, 41, 42, 43, 44, 45] (by decide +kernel) (by decide +kernel)
set_option maxRecDepth 20000 in
theorem gX4_withWorstDigit_X4_differenceUnder : GoodIn wsX4_withWorstDigit (wsV RX4 216 RX4 yX4_differenceUnder wsX4_differenceUnder) := goodIn_app (goodIn_of _ (by decide +kernel)) ggX4_withWorstDigit_X4_differenceUnder
theorem dX4_withWorstDigit_0 : decode cX4_withWorstDigit 0 = .ok (.iconst 0, 1) := by decide +kernel
theorem dX4_withWorstDigit_1 : decode cX4_withWorstDigit 1 = .ok (.istore_n 2, 1) := by decide +kernel
theorem dX4_withWorstDigit_2 : decode cX4_withWorstDigit 2 = .ok (.iconst (-1), 1) := by decide +kernel
theorem dX4_withWorstDigit_3 : decode cX4_withWorstDigit 3 = .ok (.istore_n 3, 1) := by decide +kernel
theorem dX4_withWorstDigit_4 : decode cX4_withWorstDigit 4 = .ok (.iload_n 1, 1) := by decide +kernel
theorem dX4_withWorstDigit_5 : decode cX4_withWorstDigit 5 = .ok (.ifCond .ne 7, 3) := by decide +kernel
theorem dX4_withWorstDigit_8 : decode cX4_withWorstDigit 8 = .ok (.iconst 1, 1) := by decide +kernel
theorem dX4_withWorstDigit_9 : decode cX4_withWorstDigit 9 = .ok (.goto 4, 3) := by decide +kernel
theorem dX4_withWorstDigit_12 : decode cX4_withWorstDigit 12 = .ok (.iconst 0, 1) := by decide +kernel
theorem dX4_withWorstDigit_13 : decode cX4_withWorstDigit 13 = .ok (.istore 4, 2) := by decide +kernel
theorem dX4_withWorstDigit_15 : decode cX4_withWorstDigit 15 = .ok (.iload 4, 2) := by decide +kernel
theorem dX4_withWorstDigit_17 : decode cX4_withWorstDigit 17 = .ok (.bipush 9, 2) := by decide +kernel
theorem dX4_withWorstDigit_19 : decode cX4_withWorstDigit 19 = .ok (.if_icmp .gt 41, 3) := by decide +kernel
theorem dX4_withWorstDigit_22 : decode cX4_withWorstDigit 22 = .ok (.iload_n 1, 1) := by decide +kernel
theorem dX4_withWorstDigit_23 : decode cX4_withWorstDigit 23 = .ok (.bipush 10, 2) := by decide +kernel
theorem dX4_withWorstDigit_25 : decode cX4_withWorstDigit 25 = .ok (.imul, 1) := by decide +kernel
theorem dX4_withWorstDigit_26 : decode cX4_withWorstDigit 26 = .ok (.iload 4, 2) := by decide +kernel
theorem dX4_withWorstDigit_28 : decode cX4_withWorstDigit 28 = .ok (.iadd, 1) := by decide +kernel
theorem dX4_withWorstDigit_29 : decode cX4_withWorstDigit 29 = .ok (.istore 5, 2) := by decide +kernel
theorem dX4_withWorstDigit_31 : decode cX4_withWorstDigit 31 = .ok (.aload_n 0, 1) := by decide +kernel
theorem dX4_withWorstDigit_32 : decode cX4_withWorstDigit 32 = .ok (.iload 5, 2) := by decide +kernel
theorem dX4_withWorstDigit_34 : decode cX4_withWorstDigit 34 = .ok (.invokevirtual 216, 3) := by decide +kernel
theorem dX4_withWorstDigit_37 : decode cX4_withWorstDigit 37 = .ok (.invokestatic 227, 3) := by decide +kernel
theorem dX4_withWorstDigit_40 : decode cX4_withWorstDigit 40 = .ok (.istore 6, 2) := by decide +kernel
theorem dX4_withWorstDigit_42 : decode cX4_withWorstDigit 42 = .ok (.iload 6, 2) := by decide +kernel
theorem dX4_withWorstDigit_44 : decode cX4_withWorstDigit 44 = .ok (.iload_n 3, 1) := by decide +kernel
theorem dX4_withWorstDigit_45 : decode cX4_withWorstDigit 45 = .ok (.if_icmp .le 9, 3) := by decide +kernel
theorem dX4_withWorstDigit_48 : decode cX4_withWorstDigit 48 = .ok (.iload 6, 2) := by decide +kernel
theorem dX4_withWorstDigit_50 : decode cX4_withWorstDigit 50 = .ok (.istore_n 3, 1) := by decide +kernel
theorem dX4_withWorstDigit_51 : decode cX4_withWorstDigit 51 = .ok (.iload 5, 2) := by decide +kernel
theorem dX4_withWorstDigit_53 : decode cX4_withWorstDigit 53 = .ok (.istore_n 2, 1) := by decide +kernel
theorem dX4_withWorstDigit_54 : decode cX4_withWorstDigit 54 = .ok (.iinc 4 1, 3) := by decide +kernel
theorem dX4_withWorstDigit_57 : decode cX4_withWorstDigit 57 = .ok (.goto (-42), 3) := by decide +kernel
theorem dX4_withWorstDigit_60 : decode cX4_withWorstDigit 60 = .ok (.iload_n 2, 1) := by decide +kernel
theorem dX4_withWorstDigit_61 : decode cX4_withWorstDigit 61 = .ok (.ireturn, 1) := by decide +kernel
