theorem d_Side_init_0 : decode b_Side_init 0 = .ok (.aload_n 0, 1) := by decide +kernel
theorem d_Side_init_1 : decode b_Side_init 1 = .ok (.invokespecial 1, 3) := by decide +kernel
theorem d_Side_init_4 : decode b_Side_init 4 = .ok (.return_, 1) := by decide +kernel
theorem d_Side_begin_0 : decode b_Side_begin 0 = .ok (.aload_n 0, 1) := by decide +kernel
theorem d_Side_begin_1 : decode b_Side_begin 1 = .ok (.getfield 7, 3) := by decide +kernel
theorem d_Side_begin_4 : decode b_Side_begin 4 = .ok (.ifCond .ne 18, 3) := by decide +kernel
theorem d_Side_begin_7 : decode b_Side_begin 7 = .ok (.aload_n 0, 1) := by decide +kernel
theorem d_Side_begin_8 : decode b_Side_begin 8 = .ok (.iconst 1, 1) := by decide +kernel
theorem d_Side_begin_9 : decode b_Side_begin 9 = .ok (.putfield 7, 3) := by decide +kernel
theorem d_Side_begin_12 : decode b_Side_begin 12 = .ok (.aload_n 0, 1) := by decide +kernel
theorem d_Side_begin_13 : decode b_Side_begin 13 = .ok (.iconst 0, 1) := by decide +kernel
theorem d_Side_begin_14 : decode b_Side_begin 14 = .ok (.putfield 13, 3) := by decide +kernel
theorem d_Side_begin_17 : decode b_Side_begin 17 = .ok (.aload_n 0, 1) := by decide +kernel
theorem d_Side_begin_18 : decode b_Side_begin 18 = .ok (.iconst 0, 1) := by decide +kernel
theorem d_Side_begin_19 : decode b_Side_begin 19 = .ok (.putfield 17, 3) := by decide +kernel
theorem d_Side_begin_22 : decode b_Side_begin 22 = .ok (.return_, 1) := by decide +kernel
theorem d_Side_tick_0 : decode b_Side_tick 0 = .ok (.aload_n 0, 1) := by decide +kernel
theorem d_Side_tick_1 : decode b_Side_tick 1 = .ok (.getfield 7, 3) := by decide +kernel
theorem d_Side_tick_4 : decode b_Side_tick 4 = .ok (.ifCond .ne 4, 3) := by decide +kernel
theorem d_Side_tick_7 : decode b_Side_tick 7 = .ok (.return_, 1) := by decide +kernel
theorem d_Side_tick_8 : decode b_Side_tick 8 = .ok (.aload_n 0, 1) := by decide +kernel
theorem d_Side_tick_9 : decode b_Side_tick 9 = .ok (.dup, 1) := by decide +kernel
theorem d_Side_tick_10 : decode b_Side_tick 10 = .ok (.getfield 13, 3) := by decide +kernel
theorem d_Side_tick_13 : decode b_Side_tick 13 = .ok (.iconst 1, 1) := by decide +kernel
theorem d_Side_tick_14 : decode b_Side_tick 14 = .ok (.iadd, 1) := by decide +kernel
theorem d_Side_tick_15 : decode b_Side_tick 15 = .ok (.putfield 13, 3) := by decide +kernel
theorem d_Side_tick_18 : decode b_Side_tick 18 = .ok (.aload_n 0, 1) := by decide +kernel
theorem d_Side_tick_19 : decode b_Side_tick 19 = .ok (.getfield 13, 3) := by decide +kernel
theorem d_Side_tick_22 : decode b_Side_tick 22 = .ok (.iload_n 1, 1) := by decide +kernel
theorem d_Side_tick_23 : decode b_Side_tick 23 = .ok (.invokestatic 20, 3) := by decide +kernel
theorem d_Side_tick_26 : decode b_Side_tick 26 = .ok (.if_icmp .lt 39, 3) := by decide +kernel
theorem d_Side_tick_29 : decode b_Side_tick 29 = .ok (.aload_n 0, 1) := by decide +kernel
theorem d_Side_tick_30 : decode b_Side_tick 30 = .ok (.iconst 0, 1) := by decide +kernel
theorem d_Side_tick_31 : decode b_Side_tick 31 = .ok (.putfield 13, 3) := by decide +kernel
theorem d_Side_tick_34 : decode b_Side_tick 34 = .ok (.aload_n 0, 1) := by decide +kernel
theorem d_Side_tick_35 : decode b_Side_tick 35 = .ok (.dup, 1) := by decide +kernel
theorem d_Side_tick_36 : decode b_Side_tick 36 = .ok (.getfield 17, 3) := by decide +kernel
theorem d_Side_tick_39 : decode b_Side_tick 39 = .ok (.iconst 1, 1) := by decide +kernel
theorem d_Side_tick_40 : decode b_Side_tick 40 = .ok (.iadd, 1) := by decide +kernel
theorem d_Side_tick_41 : decode b_Side_tick 41 = .ok (.putfield 17, 3) := by decide +kernel
theorem d_Side_tick_44 : decode b_Side_tick 44 = .ok (.aload_n 0, 1) := by decide +kernel
theorem d_Side_tick_45 : decode b_Side_tick 45 = .ok (.iload_n 2, 1) := by decide +kernel
theorem d_Side_tick_46 : decode b_Side_tick 46 = .ok (.ifCond .ne 11, 3) := by decide +kernel
theorem d_Side_tick_49 : decode b_Side_tick 49 = .ok (.aload_n 0, 1) := by decide +kernel
theorem d_Side_tick_50 : decode b_Side_tick 50 = .ok (.getfield 17, 3) := by decide +kernel
theorem d_Side_tick_53 : decode b_Side_tick 53 = .ok (.iconst 3, 1) := by decide +kernel
theorem d_Side_tick_54 : decode b_Side_tick 54 = .ok (.if_icmp .ge 7, 3) := by decide +kernel
theorem d_Side_tick_57 : decode b_Side_tick 57 = .ok (.iconst 1, 1) := by decide +kernel
theorem d_Side_tick_58 : decode b_Side_tick 58 = .ok (.goto 4, 3) := by decide +kernel
theorem d_Side_tick_61 : decode b_Side_tick 61 = .ok (.iconst 0, 1) := by decide +kernel
theorem d_Side_tick_62 : decode b_Side_tick 62 = .ok (.putfield 7, 3) := by decide +kernel
theorem d_Side_tick_65 : decode b_Side_tick 65 = .ok (.return_, 1) := by decide +kernel
theorem d_Side_isBright_0 : decode b_Side_isBright 0 = .ok (.aload_n 0, 1) := by decide +kernel
theorem d_Side_isBright_1 : decode b_Side_isBright 1 = .ok (.getfield 7, 3) := by decide +kernel
theorem d_Side_isBright_4 : decode b_Side_isBright 4 = .ok (.ifCond .eq 20, 3) := by decide +kernel
theorem d_Side_isBright_7 : decode b_Side_isBright 7 = .ok (.aload_n 0, 1) := by decide +kernel
theorem d_Side_isBright_8 : decode b_Side_isBright 8 = .ok (.getfield 13, 3) := by decide +kernel
theorem d_Side_isBright_11 : decode b_Side_isBright 11 = .ok (.iload_n 1, 1) := by decide +kernel
theorem d_Side_isBright_12 : decode b_Side_isBright 12 = .ok (.invokestatic 20, 3) := by decide +kernel
theorem d_Side_isBright_15 : decode b_Side_isBright 15 = .ok (.iconst 2, 1) := by decide +kernel
theorem d_Side_isBright_16 : decode b_Side_isBright 16 = .ok (.idiv, 1) := by decide +kernel
theorem d_Side_isBright_17 : decode b_Side_isBright 17 = .ok (.if_icmp .ge 7, 3) := by decide +kernel
theorem d_Side_isBright_20 : decode b_Side_isBright 20 = .ok (.iconst 1, 1) := by decide +kernel
theorem d_Side_isBright_21 : decode b_Side_isBright 21 = .ok (.goto 4, 3) := by decide +kernel
theorem d_Side_isBright_24 : decode b_Side_isBright 24 = .ok (.iconst 0, 1) := by decide +kernel
theorem d_Side_isBright_25 : decode b_Side_isBright 25 = .ok (.ireturn, 1) := by decide +kernel
theorem d_Side_period_0 : decode b_Side_period 0 = .ok (.iload_n 0, 1) := by decide +kernel
theorem d_Side_period_1 : decode b_Side_period 1 = .ok (.ifCond .eq 8, 3) := by decide +kernel
theorem d_Side_period_4 : decode b_Side_period 4 = .ok (.bipush 40, 2) := by decide +kernel
theorem d_Side_period_6 : decode b_Side_period 6 = .ok (.goto 5, 3) := by decide +kernel
theorem d_Side_period_9 : decode b_Side_period 9 = .ok (.bipush 80, 2) := by decide +kernel
theorem d_Side_period_11 : decode b_Side_period 11 = .ok (.ireturn, 1) := by decide +kernel
theorem d_Wiper_init_0 : decode b_Wiper_init 0 = .ok (.aload_n 0, 1) := by decide +kernel
theorem d_Wiper_init_1 : decode b_Wiper_init 1 = .ok (.invokespecial 1, 3) := by decide +kernel
theorem d_Wiper_init_4 : decode b_Wiper_init 4 = .ok (.return_, 1) := by decide +kernel
theorem d_Wiper_tick_0 : decode b_Wiper_tick 0 = .ok (.aload_n 0, 1) := by decide +kernel
theorem d_Wiper_tick_1 : decode b_Wiper_tick 1 = .ok (.iconst 0, 1) := by decide +kernel
theorem d_Wiper_tick_2 : decode b_Wiper_tick 2 = .ok (.putfield 7, 3) := by decide +kernel
theorem d_Wiper_tick_5 : decode b_Wiper_tick 5 = .ok (.aload_n 0, 1) := by decide +kernel
theorem d_Wiper_tick_6 : decode b_Wiper_tick 6 = .ok (.getfield 13, 3) := by decide +kernel
theorem d_Wiper_tick_9 : decode b_Wiper_tick 9 = .ok (.ifCond .ne 12, 3) := by decide +kernel
theorem d_Wiper_tick_12 : decode b_Wiper_tick 12 = .ok (.aload_n 0, 1) := by decide +kernel
theorem d_Wiper_tick_13 : decode b_Wiper_tick 13 = .ok (.iload_n 1, 1) := by decide +kernel
theorem d_Wiper_tick_14 : decode b_Wiper_tick 14 = .ok (.invokevirtual 16, 3) := by decide +kernel
theorem d_Wiper_tick_17 : decode b_Wiper_tick 17 = .ok (.ifCond .eq 4, 3) := by decide +kernel
theorem d_Wiper_tick_20 : decode b_Wiper_tick 20 = .ok (.return_, 1) := by decide +kernel
theorem d_Wiper_tick_21 : decode b_Wiper_tick 21 = .ok (.aload_n 0, 1) := by decide +kernel
theorem d_Wiper_tick_22 : decode b_Wiper_tick 22 = .ok (.iload_n 1, 1) := by decide +kernel
theorem d_Wiper_tick_23 : decode b_Wiper_tick 23 = .ok (.iconst 1, 1) := by decide +kernel
theorem d_Wiper_tick_24 : decode b_Wiper_tick 24 = .ok (.invokestatic 20, 3) := by decide +kernel
theorem d_Wiper_tick_27 : decode b_Wiper_tick 27 = .ok (.putfield 7, 3) := by decide +kernel
theorem d_Wiper_tick_30 : decode b_Wiper_tick 30 = .ok (.aload_n 0, 1) := by decide +kernel
theorem d_Wiper_tick_31 : decode b_Wiper_tick 31 = .ok (.dup, 1) := by decide +kernel
theorem d_Wiper_tick_32 : decode b_Wiper_tick 32 = .ok (.getfield 13, 3) := by decide +kernel
theorem d_Wiper_tick_35 : decode b_Wiper_tick 35 = .ok (.aload_n 0, 1) := by decide +kernel
theorem d_Wiper_tick_36 : decode b_Wiper_tick 36 = .ok (.getfield 7, 3) := by decide +kernel
theorem d_Wiper_tick_39 : decode b_Wiper_tick 39 = .ok (.iadd, 1) := by decide +kernel
theorem d_Wiper_tick_40 : decode b_Wiper_tick 40 = .ok (.putfield 13, 3) := by decide +kernel
theorem d_Wiper_tick_43 : decode b_Wiper_tick 43 = .ok (.aload_n 0, 1) := by decide +kernel
theorem d_Wiper_tick_44 : decode b_Wiper_tick 44 = .ok (.getfield 13, 3) := by decide +kernel
theorem d_Wiper_tick_47 : decode b_Wiper_tick 47 = .ok (.bipush 100, 2) := by decide +kernel
theorem d_Wiper_tick_49 : decode b_Wiper_tick 49 = .ok (.if_icmp .lt 13, 3) := by decide +kernel
theorem d_Wiper_tick_52 : decode b_Wiper_tick 52 = .ok (.aload_n 0, 1) := by decide +kernel
theorem d_Wiper_tick_53 : decode b_Wiper_tick 53 = .ok (.iconst 0, 1) := by decide +kernel
theorem d_Wiper_tick_54 : decode b_Wiper_tick 54 = .ok (.putfield 13, 3) := by decide +kernel
theorem d_Wiper_tick_57 : decode b_Wiper_tick 57 = .ok (.aload_n 0, 1) := by decide +kernel
theorem d_Wiper_tick_58 : decode b_Wiper_tick 58 = .ok (.iload_n 2, 1) := by decide +kernel
theorem d_Wiper_tick_59 : decode b_Wiper_tick 59 = .ok (.putfield 26, 3) := by decide +kernel
theorem d_Wiper_tick_62 : decode b_Wiper_tick 62 = .ok (.return_, 1) := by decide +kernel
theorem d_Wiper_staysParked_0 : decode b_Wiper_staysParked 0 = .ok (.iload_n 1, 1) := by decide +kernel
theorem d_Wiper_staysParked_1 : decode b_Wiper_staysParked 1 = .ok (.ifCond .ne 10, 3) := by decide +kernel
theorem d_Wiper_staysParked_4 : decode b_Wiper_staysParked 4 = .ok (.aload_n 0, 1) := by decide +kernel
theorem d_Wiper_staysParked_5 : decode b_Wiper_staysParked 5 = .ok (.iconst 0, 1) := by decide +kernel
theorem d_Wiper_staysParked_6 : decode b_Wiper_staysParked 6 = .ok (.putfield 26, 3) := by decide +kernel
theorem d_Wiper_staysParked_9 : decode b_Wiper_staysParked 9 = .ok (.iconst 1, 1) := by decide +kernel
theorem d_Wiper_staysParked_10 : decode b_Wiper_staysParked 10 = .ok (.ireturn, 1) := by decide +kernel
theorem d_Wiper_staysParked_11 : decode b_Wiper_staysParked 11 = .ok (.aload_n 0, 1) := by decide +kernel
theorem d_Wiper_staysParked_12 : decode b_Wiper_staysParked 12 = .ok (.getfield 26, 3) := by decide +kernel
theorem d_Wiper_staysParked_15 : decode b_Wiper_staysParked 15 = .ok (.ifCond .le 15, 3) := by decide +kernel
theorem d_Wiper_staysParked_18 : decode b_Wiper_staysParked 18 = .ok (.aload_n 0, 1) := by decide +kernel
theorem d_Wiper_staysParked_19 : decode b_Wiper_staysParked 19 = .ok (.dup, 1) := by decide +kernel
theorem d_Wiper_staysParked_20 : decode b_Wiper_staysParked 20 = .ok (.getfield 26, 3) := by decide +kernel
theorem d_Wiper_staysParked_23 : decode b_Wiper_staysParked 23 = .ok (.iconst 1, 1) := by decide +kernel
theorem d_Wiper_staysParked_24 : decode b_Wiper_staysParked 24 = .ok (.isub, 1) := by decide +kernel
theorem d_Wiper_staysParked_25 : decode b_Wiper_staysParked 25 = .ok (.putfield 26, 3) := by decide +kernel
theorem d_Wiper_staysParked_28 : decode b_Wiper_staysParked 28 = .ok (.iconst 1, 1) := by decide +kernel
theorem d_Wiper_staysParked_29 : decode b_Wiper_staysParked 29 = .ok (.ireturn, 1) := by decide +kernel
theorem d_Wiper_staysParked_30 : decode b_Wiper_staysParked 30 = .ok (.iconst 0, 1) := by decide +kernel
theorem d_Wiper_staysParked_31 : decode b_Wiper_staysParked 31 = .ok (.ireturn, 1) := by decide +kernel
theorem d_Window_init_0 : decode b_Window_init 0 = .ok (.aload_n 0, 1) := by decide +kernel
theorem d_Window_init_1 : decode b_Window_init 1 = .ok (.invokespecial 1, 3) := by decide +kernel
theorem d_Window_init_4 : decode b_Window_init 4 = .ok (.return_, 1) := by decide +kernel
theorem d_Window_tick_0 : decode b_Window_tick 0 = .ok (.aload_n 0, 1) := by decide +kernel
theorem d_Window_tick_1 : decode b_Window_tick 1 = .ok (.getfield 7, 3) := by decide +kernel
theorem d_Window_tick_4 : decode b_Window_tick 4 = .ok (.aload_n 0, 1) := by decide +kernel
theorem d_Window_tick_5 : decode b_Window_tick 5 = .ok (.getfield 13, 3) := by decide +kernel
theorem d_Window_tick_8 : decode b_Window_tick 8 = .ok (.if_icmp .ge 26, 3) := by decide +kernel
theorem d_Window_tick_11 : decode b_Window_tick 11 = .ok (.aload_n 0, 1) := by decide +kernel
theorem d_Window_tick_12 : decode b_Window_tick 12 = .ok (.aload_n 0, 1) := by decide +kernel
theorem d_Window_tick_13 : decode b_Window_tick 13 = .ok (.getfield 7, 3) := by decide +kernel
theorem d_Window_tick_16 : decode b_Window_tick 16 = .ok (.aload_n 0, 1) := by decide +kernel
theorem d_Window_tick_17 : decode b_Window_tick 17 = .ok (.invokevirtual 16, 3) := by decide +kernel
theorem d_Window_tick_20 : decode b_Window_tick 20 = .ok (.iadd, 1) := by decide +kernel
theorem d_Window_tick_21 : decode b_Window_tick 21 = .ok (.aload_n 0, 1) := by decide +kernel
theorem d_Window_tick_22 : decode b_Window_tick 22 = .ok (.getfield 13, 3) := by decide +kernel
theorem d_Window_tick_25 : decode b_Window_tick 25 = .ok (.invokestatic 20, 3) := by decide +kernel
theorem d_Window_tick_28 : decode b_Window_tick 28 = .ok (.putfield 7, 3) := by decide +kernel
theorem d_Window_tick_31 : decode b_Window_tick 31 = .ok (.goto 23, 3) := by decide +kernel
theorem d_Window_tick_34 : decode b_Window_tick 34 = .ok (.aload_n 0, 1) := by decide +kernel
theorem d_Window_tick_35 : decode b_Window_tick 35 = .ok (.aload_n 0, 1) := by decide +kernel
theorem d_Window_tick_36 : decode b_Window_tick 36 = .ok (.getfield 7, 3) := by decide +kernel
theorem d_Window_tick_39 : decode b_Window_tick 39 = .ok (.aload_n 0, 1) := by decide +kernel
theorem d_Window_tick_40 : decode b_Window_tick 40 = .ok (.invokevirtual 16, 3) := by decide +kernel
theorem d_Window_tick_43 : decode b_Window_tick 43 = .ok (.isub, 1) := by decide +kernel
theorem d_Window_tick_44 : decode b_Window_tick 44 = .ok (.aload_n 0, 1) := by decide +kernel
theorem d_Window_tick_45 : decode b_Window_tick 45 = .ok (.getfield 13, 3) := by decide +kernel
theorem d_Window_tick_48 : decode b_Window_tick 48 = .ok (.invokestatic 26, 3) := by decide +kernel
theorem d_Window_tick_51 : decode b_Window_tick 51 = .ok (.putfield 7, 3) := by decide +kernel
theorem d_Window_tick_54 : decode b_Window_tick 54 = .ok (.return_, 1) := by decide +kernel
theorem d_Window_ticksToWish_0 : decode b_Window_ticksToWish 0 = .ok (.aload_n 0, 1) := by decide +kernel
theorem d_Window_ticksToWish_1 : decode b_Window_ticksToWish 1 = .ok (.getfield 13, 3) := by decide +kernel
theorem d_Window_ticksToWish_4 : decode b_Window_ticksToWish 4 = .ok (.aload_n 0, 1) := by decide +kernel
theorem d_Window_ticksToWish_5 : decode b_Window_ticksToWish 5 = .ok (.getfield 7, 3) := by decide +kernel
theorem d_Window_ticksToWish_8 : decode b_Window_ticksToWish 8 = .ok (.isub, 1) := by decide +kernel
theorem d_Window_ticksToWish_9 : decode b_Window_ticksToWish 9 = .ok (.invokestatic 29, 3) := by decide +kernel
theorem d_Window_ticksToWish_12 : decode b_Window_ticksToWish 12 = .ok (.istore_n 1, 1) := by decide +kernel
theorem d_Window_ticksToWish_13 : decode b_Window_ticksToWish 13 = .ok (.aload_n 0, 1) := by decide +kernel
theorem d_Window_ticksToWish_14 : decode b_Window_ticksToWish 14 = .ok (.getfield 33, 3) := by decide +kernel
theorem d_Window_ticksToWish_17 : decode b_Window_ticksToWish 17 = .ok (.ifCond .eq 11, 3) := by decide +kernel
theorem d_Window_ticksToWish_20 : decode b_Window_ticksToWish 20 = .ok (.iload_n 1, 1) := by decide +kernel
theorem d_Window_ticksToWish_21 : decode b_Window_ticksToWish 21 = .ok (.iconst 1, 1) := by decide +kernel
theorem d_Window_ticksToWish_22 : decode b_Window_ticksToWish 22 = .ok (.iadd, 1) := by decide +kernel
theorem d_Window_ticksToWish_23 : decode b_Window_ticksToWish 23 = .ok (.iconst 2, 1) := by decide +kernel
theorem d_Window_ticksToWish_24 : decode b_Window_ticksToWish 24 = .ok (.idiv, 1) := by decide +kernel
theorem d_Window_ticksToWish_25 : decode b_Window_ticksToWish 25 = .ok (.goto 4, 3) := by decide +kernel
theorem d_Window_ticksToWish_28 : decode b_Window_ticksToWish 28 = .ok (.iload_n 1, 1) := by decide +kernel
theorem d_Window_ticksToWish_29 : decode b_Window_ticksToWish 29 = .ok (.ireturn, 1) := by decide +kernel
theorem d_Window_speed_0 : decode b_Window_speed 0 = .ok (.aload_n 0, 1) := by decide +kernel
theorem d_Window_speed_1 : decode b_Window_speed 1 = .ok (.getfield 33, 3) := by decide +kernel
theorem d_Window_speed_4 : decode b_Window_speed 4 = .ok (.ifCond .eq 7, 3) := by decide +kernel
theorem d_Window_speed_7 : decode b_Window_speed 7 = .ok (.iconst 2, 1) := by decide +kernel
theorem d_Window_speed_8 : decode b_Window_speed 8 = .ok (.goto 4, 3) := by decide +kernel
theorem d_Window_speed_11 : decode b_Window_speed 11 = .ok (.iconst 1, 1) := by decide +kernel
theorem d_Window_speed_12 : decode b_Window_speed 12 = .ok (.ireturn, 1) := by decide +kernel
theorem d_Window_reverseAt_0 : decode b_Window_reverseAt 0 = .ok (.aload_n 0, 1) := by decide +kernel
theorem d_Window_reverseAt_1 : decode b_Window_reverseAt 1 = .ok (.getfield 13, 3) := by decide +kernel
theorem d_Window_reverseAt_4 : decode b_Window_reverseAt 4 = .ok (.aload_n 0, 1) := by decide +kernel
theorem d_Window_reverseAt_5 : decode b_Window_reverseAt 5 = .ok (.getfield 7, 3) := by decide +kernel
theorem d_Window_reverseAt_8 : decode b_Window_reverseAt 8 = .ok (.if_icmp .le 9, 3) := by decide +kernel
theorem d_Window_reverseAt_11 : decode b_Window_reverseAt 11 = .ok (.iload_n 1, 1) := by decide +kernel
theorem d_Window_reverseAt_12 : decode b_Window_reverseAt 12 = .ok (.bipush 100, 2) := by decide +kernel
theorem d_Window_reverseAt_14 : decode b_Window_reverseAt 14 = .ok (.if_icmp .gt 5, 3) := by decide +kernel
theorem d_Window_reverseAt_17 : decode b_Window_reverseAt 17 = .ok (.iconst 0, 1) := by decide +kernel
theorem d_Window_reverseAt_18 : decode b_Window_reverseAt 18 = .ok (.ireturn, 1) := by decide +kernel
theorem d_Window_reverseAt_19 : decode b_Window_reverseAt 19 = .ok (.aload_n 0, 1) := by decide +kernel
theorem d_Window_reverseAt_20 : decode b_Window_reverseAt 20 = .ok (.aload_n 0, 1) := by decide +kernel
theorem d_Window_reverseAt_21 : decode b_Window_reverseAt 21 = .ok (.getfield 7, 3) := by decide +kernel
theorem d_Window_reverseAt_24 : decode b_Window_reverseAt 24 = .ok (.bipush 60, 2) := by decide +kernel
theorem d_Window_reverseAt_26 : decode b_Window_reverseAt 26 = .ok (.isub, 1) := by decide +kernel
theorem d_Window_reverseAt_27 : decode b_Window_reverseAt 27 = .ok (.iconst 0, 1) := by decide +kernel
theorem d_Window_reverseAt_28 : decode b_Window_reverseAt 28 = .ok (.invokestatic 26, 3) := by decide +kernel
theorem d_Window_reverseAt_31 : decode b_Window_reverseAt 31 = .ok (.putfield 13, 3) := by decide +kernel
theorem d_Window_reverseAt_34 : decode b_Window_reverseAt 34 = .ok (.iconst 1, 1) := by decide +kernel
theorem d_Window_reverseAt_35 : decode b_Window_reverseAt 35 = .ok (.ireturn, 1) := by decide +kernel
theorem d_Window_learnAtEnd_0 : decode b_Window_learnAtEnd 0 = .ok (.aload_n 0, 1) := by decide +kernel
theorem d_Window_learnAtEnd_1 : decode b_Window_learnAtEnd 1 = .ok (.getfield 7, 3) := by decide +kernel
theorem d_Window_learnAtEnd_4 : decode b_Window_learnAtEnd 4 = .ok (.aload_n 0, 1) := by decide +kernel
theorem d_Window_learnAtEnd_5 : decode b_Window_learnAtEnd 5 = .ok (.getfield 13, 3) := by decide +kernel
theorem d_Window_learnAtEnd_8 : decode b_Window_learnAtEnd 8 = .ok (.if_icmp .ne 24, 3) := by decide +kernel
theorem d_Window_learnAtEnd_11 : decode b_Window_learnAtEnd 11 = .ok (.aload_n 0, 1) := by decide +kernel
theorem d_Window_learnAtEnd_12 : decode b_Window_learnAtEnd 12 = .ok (.getfield 7, 3) := by decide +kernel
theorem d_Window_learnAtEnd_15 : decode b_Window_learnAtEnd 15 = .ok (.ifCond .eq 13, 3) := by decide +kernel
theorem d_Window_learnAtEnd_18 : decode b_Window_learnAtEnd 18 = .ok (.aload_n 0, 1) := by decide +kernel
theorem d_Window_learnAtEnd_19 : decode b_Window_learnAtEnd 19 = .ok (.getfield 7, 3) := by decide +kernel
theorem d_Window_learnAtEnd_22 : decode b_Window_learnAtEnd 22 = .ok (.sipush 200, 3) := by decide +kernel
theorem d_Window_learnAtEnd_25 : decode b_Window_learnAtEnd 25 = .ok (.if_icmp .ne 7, 3) := by decide +kernel
theorem d_Window_learnAtEnd_28 : decode b_Window_learnAtEnd 28 = .ok (.iconst 1, 1) := by decide +kernel
theorem d_Window_learnAtEnd_29 : decode b_Window_learnAtEnd 29 = .ok (.goto 4, 3) := by decide +kernel
theorem d_Window_learnAtEnd_32 : decode b_Window_learnAtEnd 32 = .ok (.iconst 0, 1) := by decide +kernel
theorem d_Window_learnAtEnd_33 : decode b_Window_learnAtEnd 33 = .ok (.istore_n 1, 1) := by decide +kernel
theorem d_Window_learnAtEnd_34 : decode b_Window_learnAtEnd 34 = .ok (.aload_n 0, 1) := by decide +kernel
theorem d_Window_learnAtEnd_35 : decode b_Window_learnAtEnd 35 = .ok (.aload_n 0, 1) := by decide +kernel
theorem d_Window_learnAtEnd_36 : decode b_Window_learnAtEnd 36 = .ok (.getfield 33, 3) := by decide +kernel
theorem d_Window_learnAtEnd_39 : decode b_Window_learnAtEnd 39 = .ok (.ifCond .ne 7, 3) := by decide +kernel
theorem d_Window_learnAtEnd_42 : decode b_Window_learnAtEnd 42 = .ok (.iload_n 1, 1) := by decide +kernel
theorem d_Window_learnAtEnd_43 : decode b_Window_learnAtEnd 43 = .ok (.ifCond .eq 7, 3) := by decide +kernel
theorem d_Window_learnAtEnd_46 : decode b_Window_learnAtEnd 46 = .ok (.iconst 1, 1) := by decide +kernel
theorem d_Window_learnAtEnd_47 : decode b_Window_learnAtEnd 47 = .ok (.goto 4, 3) := by decide +kernel
theorem d_Window_learnAtEnd_50 : decode b_Window_learnAtEnd 50 = .ok (.iconst 0, 1) := by decide +kernel
theorem d_Window_learnAtEnd_51 : decode b_Window_learnAtEnd 51 = .ok (.putfield 33, 3) := by decide +kernel
theorem d_Window_learnAtEnd_54 : decode b_Window_learnAtEnd 54 = .ok (.iload_n 1, 1) := by decide +kernel
theorem d_Window_learnAtEnd_55 : decode b_Window_learnAtEnd 55 = .ok (.ireturn, 1) := by decide +kernel
theorem d_Loads_init_0 : decode b_Loads_init 0 = .ok (.aload_n 0, 1) := by decide +kernel
theorem d_Loads_init_1 : decode b_Loads_init 1 = .ok (.invokespecial 3, 3) := by decide +kernel
theorem d_Loads_init_4 : decode b_Loads_init 4 = .ok (.aload_n 0, 1) := by decide +kernel
theorem d_Loads_init_5 : decode b_Loads_init 5 = .ok (.bipush 12, 2) := by decide +kernel
theorem d_Loads_init_7 : decode b_Loads_init 7 = .ok (.newarray .int, 2) := by decide +kernel
theorem d_Loads_init_9 : decode b_Loads_init 9 = .ok (.putfield 11, 3) := by decide +kernel
theorem d_Loads_init_12 : decode b_Loads_init 12 = .ok (.aload_n 0, 1) := by decide +kernel
theorem d_Loads_init_13 : decode b_Loads_init 13 = .ok (.bipush 12, 2) := by decide +kernel
theorem d_Loads_init_15 : decode b_Loads_init 15 = .ok (.newarray .boolean, 2) := by decide +kernel
theorem d_Loads_init_17 : decode b_Loads_init 17 = .ok (.putfield 15, 3) := by decide +kernel
theorem d_Loads_init_20 : decode b_Loads_init 20 = .ok (.aload_n 0, 1) := by decide +kernel
theorem d_Loads_init_21 : decode b_Loads_init 21 = .ok (.bipush 12, 2) := by decide +kernel
theorem d_Loads_init_23 : decode b_Loads_init 23 = .ok (.newarray .boolean, 2) := by decide +kernel
theorem d_Loads_init_25 : decode b_Loads_init 25 = .ok (.putfield 19, 3) := by decide +kernel
theorem d_Loads_init_28 : decode b_Loads_init 28 = .ok (.return_, 1) := by decide +kernel
theorem d_Loads_add_0 : decode b_Loads_add 0 = .ok (.aload_n 0, 1) := by decide +kernel
theorem d_Loads_add_1 : decode b_Loads_add 1 = .ok (.getfield 22, 3) := by decide +kernel
theorem d_Loads_add_4 : decode b_Loads_add 4 = .ok (.bipush 12, 2) := by decide +kernel
theorem d_Loads_add_6 : decode b_Loads_add 6 = .ok (.if_icmp .lt 6, 3) := by decide +kernel
theorem d_Loads_add_9 : decode b_Loads_add 9 = .ok (.bipush (-4), 2) := by decide +kernel
theorem d_Loads_add_11 : decode b_Loads_add 11 = .ok (.ireturn, 1) := by decide +kernel
theorem d_Loads_add_12 : decode b_Loads_add 12 = .ok (.aload_n 0, 1) := by decide +kernel
theorem d_Loads_add_13 : decode b_Loads_add 13 = .ok (.getfield 11, 3) := by decide +kernel
theorem d_Loads_add_16 : decode b_Loads_add 16 = .ok (.aload_n 0, 1) := by decide +kernel
theorem d_Loads_add_17 : decode b_Loads_add 17 = .ok (.getfield 22, 3) := by decide +kernel
theorem d_Loads_add_20 : decode b_Loads_add 20 = .ok (.iload_n 1, 1) := by decide +kernel
theorem d_Loads_add_21 : decode b_Loads_add 21 = .ok (.iastore, 1) := by decide +kernel
theorem d_Loads_add_22 : decode b_Loads_add 22 = .ok (.aload_n 0, 1) := by decide +kernel
theorem d_Loads_add_23 : decode b_Loads_add 23 = .ok (.getfield 15, 3) := by decide +kernel
theorem d_Loads_add_26 : decode b_Loads_add 26 = .ok (.aload_n 0, 1) := by decide +kernel
theorem d_Loads_add_27 : decode b_Loads_add 27 = .ok (.getfield 22, 3) := by decide +kernel
theorem d_Loads_add_30 : decode b_Loads_add 30 = .ok (.iload_n 2, 1) := by decide +kernel
theorem d_Loads_add_31 : decode b_Loads_add 31 = .ok (.bastore, 1) := by decide +kernel
theorem d_Loads_add_32 : decode b_Loads_add 32 = .ok (.aload_n 0, 1) := by decide +kernel
theorem d_Loads_add_33 : decode b_Loads_add 33 = .ok (.dup, 1) := by decide +kernel
theorem d_Loads_add_34 : decode b_Loads_add 34 = .ok (.getfield 22, 3) := by decide +kernel
theorem d_Loads_add_37 : decode b_Loads_add 37 = .ok (.iconst 1, 1) := by decide +kernel
theorem d_Loads_add_38 : decode b_Loads_add 38 = .ok (.iadd, 1) := by decide +kernel
theorem d_Loads_add_39 : decode b_Loads_add 39 = .ok (.putfield 22, 3) := by decide +kernel
theorem d_Loads_add_42 : decode b_Loads_add 42 = .ok (.aload_n 0, 1) := by decide +kernel
theorem d_Loads_add_43 : decode b_Loads_add 43 = .ok (.getfield 22, 3) := by decide +kernel
theorem d_Loads_add_46 : decode b_Loads_add 46 = .ok (.ireturn, 1) := by decide +kernel
theorem d_Loads_has_0 : decode b_Loads_has 0 = .ok (.iload_n 1, 1) := by decide +kernel
theorem d_Loads_has_1 : decode b_Loads_has 1 = .ok (.iconst 1, 1) := by decide +kernel
theorem d_Loads_has_2 : decode b_Loads_has 2 = .ok (.if_icmp .lt 15, 3) := by decide +kernel
theorem d_Loads_has_5 : decode b_Loads_has 5 = .ok (.iload_n 1, 1) := by decide +kernel
theorem d_Loads_has_6 : decode b_Loads_has 6 = .ok (.aload_n 0, 1) := by decide +kernel
theorem d_Loads_has_7 : decode b_Loads_has 7 = .ok (.getfield 22, 3) := by decide +kernel
theorem d_Loads_has_10 : decode b_Loads_has 10 = .ok (.if_icmp .gt 7, 3) := by decide +kernel
theorem d_Loads_has_13 : decode b_Loads_has 13 = .ok (.iconst 1, 1) := by decide +kernel
theorem d_Loads_has_14 : decode b_Loads_has 14 = .ok (.goto 4, 3) := by decide +kernel
theorem d_Loads_has_17 : decode b_Loads_has 17 = .ok (.iconst 0, 1) := by decide +kernel
theorem d_Loads_has_18 : decode b_Loads_has 18 = .ok (.ireturn, 1) := by decide +kernel
theorem d_Loads_runs_0 : decode b_Loads_runs 0 = .ok (.aload_n 0, 1) := by decide +kernel
theorem d_Loads_runs_1 : decode b_Loads_runs 1 = .ok (.iload_n 1, 1) := by decide +kernel
theorem d_Loads_runs_2 : decode b_Loads_runs 2 = .ok (.invokevirtual 26, 3) := by decide +kernel
theorem d_Loads_runs_5 : decode b_Loads_runs 5 = .ok (.ifCond .eq 18, 3) := by decide +kernel
theorem d_Loads_runs_8 : decode b_Loads_runs 8 = .ok (.aload_n 0, 1) := by decide +kernel
theorem d_Loads_runs_9 : decode b_Loads_runs 9 = .ok (.getfield 19, 3) := by decide +kernel
theorem d_Loads_runs_12 : decode b_Loads_runs 12 = .ok (.iload_n 1, 1) := by decide +kernel
theorem d_Loads_runs_13 : decode b_Loads_runs 13 = .ok (.iconst 1, 1) := by decide +kernel
theorem d_Loads_runs_14 : decode b_Loads_runs 14 = .ok (.isub, 1) := by decide +kernel
theorem d_Loads_runs_15 : decode b_Loads_runs 15 = .ok (.baload, 1) := by decide +kernel
theorem d_Loads_runs_16 : decode b_Loads_runs 16 = .ok (.ifCond .ne 7, 3) := by decide +kernel
theorem d_Loads_runs_19 : decode b_Loads_runs 19 = .ok (.iconst 1, 1) := by decide +kernel
theorem d_Loads_runs_20 : decode b_Loads_runs 20 = .ok (.goto 4, 3) := by decide +kernel
theorem d_Loads_runs_23 : decode b_Loads_runs 23 = .ok (.iconst 0, 1) := by decide +kernel
theorem d_Loads_runs_24 : decode b_Loads_runs 24 = .ok (.ireturn, 1) := by decide +kernel
theorem d_Loads_countOff_0 : decode b_Loads_countOff 0 = .ok (.iconst 0, 1) := by decide +kernel
theorem d_Loads_countOff_1 : decode b_Loads_countOff 1 = .ok (.istore_n 1, 1) := by decide +kernel
theorem d_Loads_countOff_2 : decode b_Loads_countOff 2 = .ok (.iconst 0, 1) := by decide +kernel
theorem d_Loads_countOff_3 : decode b_Loads_countOff 3 = .ok (.istore_n 2, 1) := by decide +kernel
theorem d_Loads_countOff_4 : decode b_Loads_countOff 4 = .ok (.iload_n 2, 1) := by decide +kernel
theorem d_Loads_countOff_5 : decode b_Loads_countOff 5 = .ok (.aload_n 0, 1) := by decide +kernel
theorem d_Loads_countOff_6 : decode b_Loads_countOff 6 = .ok (.getfield 22, 3) := by decide +kernel
theorem d_Loads_countOff_9 : decode b_Loads_countOff 9 = .ok (.if_icmp .ge 21, 3) := by decide +kernel
theorem d_Loads_countOff_12 : decode b_Loads_countOff 12 = .ok (.aload_n 0, 1) := by decide +kernel
theorem d_Loads_countOff_13 : decode b_Loads_countOff 13 = .ok (.getfield 19, 3) := by decide +kernel
theorem d_Loads_countOff_16 : decode b_Loads_countOff 16 = .ok (.iload_n 2, 1) := by decide +kernel
theorem d_Loads_countOff_17 : decode b_Loads_countOff 17 = .ok (.baload, 1) := by decide +kernel
theorem d_Loads_countOff_18 : decode b_Loads_countOff 18 = .ok (.ifCond .eq 6, 3) := by decide +kernel
theorem d_Loads_countOff_21 : decode b_Loads_countOff 21 = .ok (.iinc 1 1, 3) := by decide +kernel
theorem d_Loads_countOff_24 : decode b_Loads_countOff 24 = .ok (.iinc 2 1, 3) := by decide +kernel
theorem d_Loads_countOff_27 : decode b_Loads_countOff 27 = .ok (.goto (-23), 3) := by decide +kernel
theorem d_Loads_countOff_30 : decode b_Loads_countOff 30 = .ok (.iload_n 1, 1) := by decide +kernel
theorem d_Loads_countOff_31 : decode b_Loads_countOff 31 = .ok (.ireturn, 1) := by decide +kernel
theorem d_Loads_measure_0 : decode b_Loads_measure 0 = .ok (.aload_n 0, 1) := by decide +kernel
theorem d_Loads_measure_1 : decode b_Loads_measure 1 = .ok (.iload_n 1, 1) := by decide +kernel
theorem d_Loads_measure_2 : decode b_Loads_measure 2 = .ok (.sipush 11500, 3) := by decide +kernel
theorem d_Loads_measure_5 : decode b_Loads_measure 5 = .ok (.if_icmp .ge 12, 3) := by decide +kernel
theorem d_Loads_measure_8 : decode b_Loads_measure 8 = .ok (.aload_n 0, 1) := by decide +kernel
theorem d_Loads_measure_9 : decode b_Loads_measure 9 = .ok (.getfield 30, 3) := by decide +kernel
theorem d_Loads_measure_12 : decode b_Loads_measure 12 = .ok (.iconst 1, 1) := by decide +kernel
theorem d_Loads_measure_13 : decode b_Loads_measure 13 = .ok (.iadd, 1) := by decide +kernel
theorem d_Loads_measure_14 : decode b_Loads_measure 14 = .ok (.goto 4, 3) := by decide +kernel
theorem d_Loads_measure_17 : decode b_Loads_measure 17 = .ok (.iconst 0, 1) := by decide +kernel
theorem d_Loads_measure_18 : decode b_Loads_measure 18 = .ok (.putfield 30, 3) := by decide +kernel
theorem d_Loads_measure_21 : decode b_Loads_measure 21 = .ok (.aload_n 0, 1) := by decide +kernel
theorem d_Loads_measure_22 : decode b_Loads_measure 22 = .ok (.iload_n 1, 1) := by decide +kernel
theorem d_Loads_measure_23 : decode b_Loads_measure 23 = .ok (.sipush 12500, 3) := by decide +kernel
theorem d_Loads_measure_26 : decode b_Loads_measure 26 = .ok (.if_icmp .le 12, 3) := by decide +kernel
theorem d_Loads_measure_29 : decode b_Loads_measure 29 = .ok (.aload_n 0, 1) := by decide +kernel
theorem d_Loads_measure_30 : decode b_Loads_measure 30 = .ok (.getfield 33, 3) := by decide +kernel
theorem d_Loads_measure_33 : decode b_Loads_measure 33 = .ok (.iconst 1, 1) := by decide +kernel
theorem d_Loads_measure_34 : decode b_Loads_measure 34 = .ok (.iadd, 1) := by decide +kernel
theorem d_Loads_measure_35 : decode b_Loads_measure 35 = .ok (.goto 4, 3) := by decide +kernel
theorem d_Loads_measure_38 : decode b_Loads_measure 38 = .ok (.iconst 0, 1) := by decide +kernel
theorem d_Loads_measure_39 : decode b_Loads_measure 39 = .ok (.putfield 33, 3) := by decide +kernel
theorem d_Loads_measure_42 : decode b_Loads_measure 42 = .ok (.aload_n 0, 1) := by decide +kernel
theorem d_Loads_measure_43 : decode b_Loads_measure 43 = .ok (.getfield 30, 3) := by decide +kernel
theorem d_Loads_measure_46 : decode b_Loads_measure 46 = .ok (.iconst 3, 1) := by decide +kernel
theorem d_Loads_measure_47 : decode b_Loads_measure 47 = .ok (.if_icmp .lt 17, 3) := by decide +kernel
theorem d_Loads_measure_50 : decode b_Loads_measure 50 = .ok (.aload_n 0, 1) := by decide +kernel
theorem d_Loads_measure_51 : decode b_Loads_measure 51 = .ok (.iconst 0, 1) := by decide +kernel
theorem d_Loads_measure_52 : decode b_Loads_measure 52 = .ok (.putfield 30, 3) := by decide +kernel
theorem d_Loads_measure_55 : decode b_Loads_measure 55 = .ok (.aload_n 0, 1) := by decide +kernel
theorem d_Loads_measure_56 : decode b_Loads_measure 56 = .ok (.aload_n 0, 1) := by decide +kernel
theorem d_Loads_measure_57 : decode b_Loads_measure 57 = .ok (.invokevirtual 36, 3) := by decide +kernel
theorem d_Loads_measure_60 : decode b_Loads_measure 60 = .ok (.iconst 1, 1) := by decide +kernel
theorem d_Loads_measure_61 : decode b_Loads_measure 61 = .ok (.invokevirtual 40, 3) := by decide +kernel
theorem d_Loads_measure_64 : decode b_Loads_measure 64 = .ok (.aload_n 0, 1) := by decide +kernel
theorem d_Loads_measure_65 : decode b_Loads_measure 65 = .ok (.getfield 33, 3) := by decide +kernel
theorem d_Loads_measure_68 : decode b_Loads_measure 68 = .ok (.iconst 3, 1) := by decide +kernel
theorem d_Loads_measure_69 : decode b_Loads_measure 69 = .ok (.if_icmp .lt 17, 3) := by decide +kernel
theorem d_Loads_measure_72 : decode b_Loads_measure 72 = .ok (.aload_n 0, 1) := by decide +kernel
theorem d_Loads_measure_73 : decode b_Loads_measure 73 = .ok (.iconst 0, 1) := by decide +kernel
theorem d_Loads_measure_74 : decode b_Loads_measure 74 = .ok (.putfield 33, 3) := by decide +kernel
theorem d_Loads_measure_77 : decode b_Loads_measure 77 = .ok (.aload_n 0, 1) := by decide +kernel
theorem d_Loads_measure_78 : decode b_Loads_measure 78 = .ok (.aload_n 0, 1) := by decide +kernel
theorem d_Loads_measure_79 : decode b_Loads_measure 79 = .ok (.invokevirtual 44, 3) := by decide +kernel
theorem d_Loads_measure_82 : decode b_Loads_measure 82 = .ok (.iconst 0, 1) := by decide +kernel
theorem d_Loads_measure_83 : decode b_Loads_measure 83 = .ok (.invokevirtual 40, 3) := by decide +kernel
theorem d_Loads_measure_86 : decode b_Loads_measure 86 = .ok (.return_, 1) := by decide +kernel
theorem d_Loads_setOff_0 : decode b_Loads_setOff 0 = .ok (.iload_n 1, 1) := by decide +kernel
theorem d_Loads_setOff_1 : decode b_Loads_setOff 1 = .ok (.iconst (-1), 1) := by decide +kernel
theorem d_Loads_setOff_2 : decode b_Loads_setOff 2 = .ok (.if_icmp .eq 10, 3) := by decide +kernel
theorem d_Loads_setOff_5 : decode b_Loads_setOff 5 = .ok (.aload_n 0, 1) := by decide +kernel
theorem d_Loads_setOff_6 : decode b_Loads_setOff 6 = .ok (.getfield 19, 3) := by decide +kernel
theorem d_Loads_setOff_9 : decode b_Loads_setOff 9 = .ok (.iload_n 1, 1) := by decide +kernel
theorem d_Loads_setOff_10 : decode b_Loads_setOff 10 = .ok (.iload_n 2, 1) := by decide +kernel
theorem d_Loads_setOff_11 : decode b_Loads_setOff 11 = .ok (.bastore, 1) := by decide +kernel
theorem d_Loads_setOff_12 : decode b_Loads_setOff 12 = .ok (.return_, 1) := by decide +kernel
theorem d_Loads_findNextToShed_0 : decode b_Loads_findNextToShed 0 = .ok (.iconst (-1), 1) := by decide +kernel
theorem d_Loads_findNextToShed_1 : decode b_Loads_findNextToShed 1 = .ok (.istore_n 1, 1) := by decide +kernel
theorem d_Loads_findNextToShed_2 : decode b_Loads_findNextToShed 2 = .ok (.iconst 0, 1) := by decide +kernel
theorem d_Loads_findNextToShed_3 : decode b_Loads_findNextToShed 3 = .ok (.istore_n 2, 1) := by decide +kernel
theorem d_Loads_findNextToShed_4 : decode b_Loads_findNextToShed 4 = .ok (.iload_n 2, 1) := by decide +kernel
theorem d_Loads_findNextToShed_5 : decode b_Loads_findNextToShed 5 = .ok (.aload_n 0, 1) := by decide +kernel
theorem d_Loads_findNextToShed_6 : decode b_Loads_findNextToShed 6 = .ok (.getfield 22, 3) := by decide +kernel
theorem d_Loads_findNextToShed_9 : decode b_Loads_findNextToShed 9 = .ok (.if_icmp .ge 49, 3) := by decide +kernel
theorem d_Loads_findNextToShed_12 : decode b_Loads_findNextToShed 12 = .ok (.aload_n 0, 1) := by decide +kernel
theorem d_Loads_findNextToShed_13 : decode b_Loads_findNextToShed 13 = .ok (.getfield 19, 3) := by decide +kernel
theorem d_Loads_findNextToShed_16 : decode b_Loads_findNextToShed 16 = .ok (.iload_n 2, 1) := by decide +kernel
theorem d_Loads_findNextToShed_17 : decode b_Loads_findNextToShed 17 = .ok (.baload, 1) := by decide +kernel
theorem d_Loads_findNextToShed_18 : decode b_Loads_findNextToShed 18 = .ok (.ifCond .ne 34, 3) := by decide +kernel
theorem d_Loads_findNextToShed_21 : decode b_Loads_findNextToShed 21 = .ok (.aload_n 0, 1) := by decide +kernel
theorem d_Loads_findNextToShed_22 : decode b_Loads_findNextToShed 22 = .ok (.getfield 15, 3) := by decide +kernel
theorem d_Loads_findNextToShed_25 : decode b_Loads_findNextToShed 25 = .ok (.iload_n 2, 1) := by decide +kernel
theorem d_Loads_findNextToShed_26 : decode b_Loads_findNextToShed 26 = .ok (.baload, 1) := by decide +kernel
theorem d_Loads_findNextToShed_27 : decode b_Loads_findNextToShed 27 = .ok (.ifCond .ne 25, 3) := by decide +kernel
theorem d_Loads_findNextToShed_30 : decode b_Loads_findNextToShed 30 = .ok (.iload_n 1, 1) := by decide +kernel
theorem d_Loads_findNextToShed_31 : decode b_Loads_findNextToShed 31 = .ok (.iconst (-1), 1) := by decide +kernel
theorem d_Loads_findNextToShed_32 : decode b_Loads_findNextToShed 32 = .ok (.if_icmp .eq 18, 3) := by decide +kernel
theorem d_Loads_findNextToShed_35 : decode b_Loads_findNextToShed 35 = .ok (.aload_n 0, 1) := by decide +kernel
theorem d_Loads_findNextToShed_36 : decode b_Loads_findNextToShed 36 = .ok (.getfield 11, 3) := by decide +kernel
theorem d_Loads_findNextToShed_39 : decode b_Loads_findNextToShed 39 = .ok (.iload_n 2, 1) := by decide +kernel
theorem d_Loads_findNextToShed_40 : decode b_Loads_findNextToShed 40 = .ok (.iaload, 1) := by decide +kernel
theorem d_Loads_findNextToShed_41 : decode b_Loads_findNextToShed 41 = .ok (.aload_n 0, 1) := by decide +kernel
theorem d_Loads_findNextToShed_42 : decode b_Loads_findNextToShed 42 = .ok (.getfield 11, 3) := by decide +kernel
theorem d_Loads_findNextToShed_45 : decode b_Loads_findNextToShed 45 = .ok (.iload_n 1, 1) := by decide +kernel
theorem d_Loads_findNextToShed_46 : decode b_Loads_findNextToShed 46 = .ok (.iaload, 1) := by decide +kernel
theorem d_Loads_findNextToShed_47 : decode b_Loads_findNextToShed 47 = .ok (.if_icmp .lt 5, 3) := by decide +kernel
theorem d_Loads_findNextToShed_50 : decode b_Loads_findNextToShed 50 = .ok (.iload_n 2, 1) := by decide +kernel
theorem d_Loads_findNextToShed_51 : decode b_Loads_findNextToShed 51 = .ok (.istore_n 1, 1) := by decide +kernel
theorem d_Loads_findNextToShed_52 : decode b_Loads_findNextToShed 52 = .ok (.iinc 2 1, 3) := by decide +kernel
theorem d_Loads_findNextToShed_55 : decode b_Loads_findNextToShed 55 = .ok (.goto (-51), 3) := by decide +kernel
theorem d_Loads_findNextToShed_58 : decode b_Loads_findNextToShed 58 = .ok (.iload_n 1, 1) := by decide +kernel
theorem d_Loads_findNextToShed_59 : decode b_Loads_findNextToShed 59 = .ok (.ireturn, 1) := by decide +kernel
theorem d_Loads_findNextToRestore_0 : decode b_Loads_findNextToRestore 0 = .ok (.iconst (-1), 1) := by decide +kernel
theorem d_Loads_findNextToRestore_1 : decode b_Loads_findNextToRestore 1 = .ok (.istore_n 1, 1) := by decide +kernel
theorem d_Loads_findNextToRestore_2 : decode b_Loads_findNextToRestore 2 = .ok (.iconst 0, 1) := by decide +kernel
theorem d_Loads_findNextToRestore_3 : decode b_Loads_findNextToRestore 3 = .ok (.istore_n 2, 1) := by decide +kernel
theorem d_Loads_findNextToRestore_4 : decode b_Loads_findNextToRestore 4 = .ok (.iload_n 2, 1) := by decide +kernel
theorem d_Loads_findNextToRestore_5 : decode b_Loads_findNextToRestore 5 = .ok (.aload_n 0, 1) := by decide +kernel
theorem d_Loads_findNextToRestore_6 : decode b_Loads_findNextToRestore 6 = .ok (.getfield 22, 3) := by decide +kernel
theorem d_Loads_findNextToRestore_9 : decode b_Loads_findNextToRestore 9 = .ok (.if_icmp .ge 40, 3) := by decide +kernel
theorem d_Loads_findNextToRestore_12 : decode b_Loads_findNextToRestore 12 = .ok (.aload_n 0, 1) := by decide +kernel
theorem d_Loads_findNextToRestore_13 : decode b_Loads_findNextToRestore 13 = .ok (.getfield 19, 3) := by decide +kernel
theorem d_Loads_findNextToRestore_16 : decode b_Loads_findNextToRestore 16 = .ok (.iload_n 2, 1) := by decide +kernel
theorem d_Loads_findNextToRestore_17 : decode b_Loads_findNextToRestore 17 = .ok (.baload, 1) := by decide +kernel
theorem d_Loads_findNextToRestore_18 : decode b_Loads_findNextToRestore 18 = .ok (.ifCond .eq 25, 3) := by decide +kernel
theorem d_Loads_findNextToRestore_21 : decode b_Loads_findNextToRestore 21 = .ok (.iload_n 1, 1) := by decide +kernel
theorem d_Loads_findNextToRestore_22 : decode b_Loads_findNextToRestore 22 = .ok (.iconst (-1), 1) := by decide +kernel
theorem d_Loads_findNextToRestore_23 : decode b_Loads_findNextToRestore 23 = .ok (.if_icmp .eq 18, 3) := by decide +kernel
theorem d_Loads_findNextToRestore_26 : decode b_Loads_findNextToRestore 26 = .ok (.aload_n 0, 1) := by decide +kernel
theorem d_Loads_findNextToRestore_27 : decode b_Loads_findNextToRestore 27 = .ok (.getfield 11, 3) := by decide +kernel
theorem d_Loads_findNextToRestore_30 : decode b_Loads_findNextToRestore 30 = .ok (.iload_n 2, 1) := by decide +kernel
theorem d_Loads_findNextToRestore_31 : decode b_Loads_findNextToRestore 31 = .ok (.iaload, 1) := by decide +kernel
theorem d_Loads_findNextToRestore_32 : decode b_Loads_findNextToRestore 32 = .ok (.aload_n 0, 1) := by decide +kernel
theorem d_Loads_findNextToRestore_33 : decode b_Loads_findNextToRestore 33 = .ok (.getfield 11, 3) := by decide +kernel
theorem d_Loads_findNextToRestore_36 : decode b_Loads_findNextToRestore 36 = .ok (.iload_n 1, 1) := by decide +kernel
theorem d_Loads_findNextToRestore_37 : decode b_Loads_findNextToRestore 37 = .ok (.iaload, 1) := by decide +kernel
theorem d_Loads_findNextToRestore_38 : decode b_Loads_findNextToRestore 38 = .ok (.if_icmp .ge 5, 3) := by decide +kernel
theorem d_Loads_findNextToRestore_41 : decode b_Loads_findNextToRestore 41 = .ok (.iload_n 2, 1) := by decide +kernel
theorem d_Loads_findNextToRestore_42 : decode b_Loads_findNextToRestore 42 = .ok (.istore_n 1, 1) := by decide +kernel
theorem d_Loads_findNextToRestore_43 : decode b_Loads_findNextToRestore 43 = .ok (.iinc 2 1, 3) := by decide +kernel
theorem d_Loads_findNextToRestore_46 : decode b_Loads_findNextToRestore 46 = .ok (.goto (-42), 3) := by decide +kernel
theorem d_Loads_findNextToRestore_49 : decode b_Loads_findNextToRestore 49 = .ok (.iload_n 1, 1) := by decide +kernel
theorem d_Loads_findNextToRestore_50 : decode b_Loads_findNextToRestore 50 = .ok (.ireturn, 1) := by decide +kernel
