theorem d_A_init_0 : decode b_A_init 0 = .ok (.aload_n 0, 1) := by decide +kernel
theorem d_A_init_1 : decode b_A_init 1 = .ok (.invokespecial 3, 3) := by decide +kernel
theorem d_A_init_4 : decode b_A_init 4 = .ok (.aload_n 0, 1) := by decide +kernel
theorem d_A_init_5 : decode b_A_init 5 = .ok (.new 9, 3) := by decide +kernel
theorem d_A_init_8 : decode b_A_init 8 = .ok (.dup, 1) := by decide +kernel
theorem d_A_init_9 : decode b_A_init 9 = .ok (.invokespecial 11, 3) := by decide +kernel
theorem d_A_init_12 : decode b_A_init 12 = .ok (.putfield 12, 3) := by decide +kernel
theorem d_A_init_15 : decode b_A_init 15 = .ok (.aload_n 0, 1) := by decide +kernel
theorem d_A_init_16 : decode b_A_init 16 = .ok (.bipush 8, 2) := by decide +kernel
theorem d_A_init_18 : decode b_A_init 18 = .ok (.newarray .int, 2) := by decide +kernel
theorem d_A_init_20 : decode b_A_init 20 = .ok (.putfield 18, 3) := by decide +kernel
theorem d_A_init_23 : decode b_A_init 23 = .ok (.aload_n 0, 1) := by decide +kernel
theorem d_A_init_24 : decode b_A_init 24 = .ok (.bipush 6, 2) := by decide +kernel
theorem d_A_init_26 : decode b_A_init 26 = .ok (.newarray .int, 2) := by decide +kernel
theorem d_A_init_28 : decode b_A_init 28 = .ok (.putfield 22, 3) := by decide +kernel
theorem d_A_init_31 : decode b_A_init 31 = .ok (.aload_n 0, 1) := by decide +kernel
theorem d_A_init_32 : decode b_A_init 32 = .ok (.iconst 4, 1) := by decide +kernel
theorem d_A_init_33 : decode b_A_init 33 = .ok (.newarray .int, 2) := by decide +kernel
theorem d_A_init_35 : decode b_A_init 35 = .ok (.putfield 25, 3) := by decide +kernel
theorem d_A_init_38 : decode b_A_init 38 = .ok (.return_, 1) := by decide +kernel
theorem d_A_takeIn_0 : decode b_A_takeIn 0 = .ok (.aload_n 0, 1) := by decide +kernel
theorem d_A_takeIn_1 : decode b_A_takeIn 1 = .ok (.getfield 12, 3) := by decide +kernel
theorem d_A_takeIn_4 : decode b_A_takeIn 4 = .ok (.aload_n 1, 1) := by decide +kernel
theorem d_A_takeIn_5 : decode b_A_takeIn 5 = .ok (.invokevirtual 28, 3) := by decide +kernel
theorem d_A_takeIn_8 : decode b_A_takeIn 8 = .ok (.aload_n 0, 1) := by decide +kernel
theorem d_A_takeIn_9 : decode b_A_takeIn 9 = .ok (.dup, 1) := by decide +kernel
theorem d_A_takeIn_10 : decode b_A_takeIn 10 = .ok (.getfield 32, 3) := by decide +kernel
theorem d_A_takeIn_13 : decode b_A_takeIn 13 = .ok (.aload_n 1, 1) := by decide +kernel
theorem d_A_takeIn_14 : decode b_A_takeIn 14 = .ok (.getfield 36, 3) := by decide +kernel
theorem d_A_takeIn_17 : decode b_A_takeIn 17 = .ok (.iand, 1) := by decide +kernel
theorem d_A_takeIn_18 : decode b_A_takeIn 18 = .ok (.putfield 32, 3) := by decide +kernel
theorem d_A_takeIn_21 : decode b_A_takeIn 21 = .ok (.aload_n 0, 1) := by decide +kernel
theorem d_A_takeIn_22 : decode b_A_takeIn 22 = .ok (.iconst 0, 1) := by decide +kernel
theorem d_A_takeIn_23 : decode b_A_takeIn 23 = .ok (.putfield 39, 3) := by decide +kernel
theorem d_A_takeIn_26 : decode b_A_takeIn 26 = .ok (.aload_n 0, 1) := by decide +kernel
theorem d_A_takeIn_27 : decode b_A_takeIn 27 = .ok (.iconst 1, 1) := by decide +kernel
theorem d_A_takeIn_28 : decode b_A_takeIn 28 = .ok (.putfield 43, 3) := by decide +kernel
theorem d_A_takeIn_31 : decode b_A_takeIn 31 = .ok (.return_, 1) := by decide +kernel
theorem d_A_clearAway_0 : decode b_A_clearAway 0 = .ok (.aload_n 0, 1) := by decide +kernel
theorem d_A_clearAway_1 : decode b_A_clearAway 1 = .ok (.iconst 0, 1) := by decide +kernel
theorem d_A_clearAway_2 : decode b_A_clearAway 2 = .ok (.putfield 43, 3) := by decide +kernel
theorem d_A_clearAway_5 : decode b_A_clearAway 5 = .ok (.aload_n 0, 1) := by decide +kernel
theorem d_A_clearAway_6 : decode b_A_clearAway 6 = .ok (.iconst 0, 1) := by decide +kernel
theorem d_A_clearAway_7 : decode b_A_clearAway 7 = .ok (.putfield 32, 3) := by decide +kernel
theorem d_A_clearAway_10 : decode b_A_clearAway 10 = .ok (.aload_n 0, 1) := by decide +kernel
theorem d_A_clearAway_11 : decode b_A_clearAway 11 = .ok (.iconst 0, 1) := by decide +kernel
theorem d_A_clearAway_12 : decode b_A_clearAway 12 = .ok (.putfield 46, 3) := by decide +kernel
theorem d_A_clearAway_15 : decode b_A_clearAway 15 = .ok (.aload_n 0, 1) := by decide +kernel
theorem d_A_clearAway_16 : decode b_A_clearAway 16 = .ok (.iconst 0, 1) := by decide +kernel
theorem d_A_clearAway_17 : decode b_A_clearAway 17 = .ok (.putfield 39, 3) := by decide +kernel
theorem d_A_clearAway_20 : decode b_A_clearAway 20 = .ok (.return_, 1) := by decide +kernel
theorem d_A_begin_0 : decode b_A_begin 0 = .ok (.aload_n 0, 1) := by decide +kernel
theorem d_A_begin_1 : decode b_A_begin 1 = .ok (.iconst 1, 1) := by decide +kernel
theorem d_A_begin_2 : decode b_A_begin 2 = .ok (.putfield 39, 3) := by decide +kernel
theorem d_A_begin_5 : decode b_A_begin 5 = .ok (.aload_n 0, 1) := by decide +kernel
theorem d_A_begin_6 : decode b_A_begin 6 = .ok (.iload_n 1, 1) := by decide +kernel
theorem d_A_begin_7 : decode b_A_begin 7 = .ok (.putfield 49, 3) := by decide +kernel
theorem d_A_begin_10 : decode b_A_begin 10 = .ok (.aload_n 0, 1) := by decide +kernel
theorem d_A_begin_11 : decode b_A_begin 11 = .ok (.iconst 0, 1) := by decide +kernel
theorem d_A_begin_12 : decode b_A_begin 12 = .ok (.putfield 52, 3) := by decide +kernel
theorem d_A_begin_15 : decode b_A_begin 15 = .ok (.aload_n 0, 1) := by decide +kernel
theorem d_A_begin_16 : decode b_A_begin 16 = .ok (.getfield 25, 3) := by decide +kernel
theorem d_A_begin_19 : decode b_A_begin 19 = .ok (.iconst 0, 1) := by decide +kernel
theorem d_A_begin_20 : decode b_A_begin 20 = .ok (.invokestatic 55, 3) := by decide +kernel
theorem d_A_begin_23 : decode b_A_begin 23 = .ok (.aload_n 0, 1) := by decide +kernel
theorem d_A_begin_24 : decode b_A_begin 24 = .ok (.getfield 25, 3) := by decide +kernel
theorem d_A_begin_27 : decode b_A_begin 27 = .ok (.iconst 0, 1) := by decide +kernel
theorem d_A_begin_28 : decode b_A_begin 28 = .ok (.iload_n 2, 1) := by decide +kernel
theorem d_A_begin_29 : decode b_A_begin 29 = .ok (.iastore, 1) := by decide +kernel
theorem d_A_begin_30 : decode b_A_begin 30 = .ok (.aload_n 0, 1) := by decide +kernel
theorem d_A_begin_31 : decode b_A_begin 31 = .ok (.getfield 25, 3) := by decide +kernel
theorem d_A_begin_34 : decode b_A_begin 34 = .ok (.iconst 1, 1) := by decide +kernel
theorem d_A_begin_35 : decode b_A_begin 35 = .ok (.iload_n 3, 1) := by decide +kernel
theorem d_A_begin_36 : decode b_A_begin 36 = .ok (.iastore, 1) := by decide +kernel
theorem d_A_begin_37 : decode b_A_begin 37 = .ok (.return_, 1) := by decide +kernel
theorem d_A_wasGranted_0 : decode b_A_wasGranted 0 = .ok (.aload_n 0, 1) := by decide +kernel
theorem d_A_wasGranted_1 : decode b_A_wasGranted 1 = .ok (.getfield 32, 3) := by decide +kernel
theorem d_A_wasGranted_4 : decode b_A_wasGranted 4 = .ok (.iload_n 1, 1) := by decide +kernel
theorem d_A_wasGranted_5 : decode b_A_wasGranted 5 = .ok (.bipush 8, 2) := by decide +kernel
theorem d_A_wasGranted_7 : decode b_A_wasGranted 7 = .ok (.invokestatic 61, 3) := by decide +kernel
theorem d_A_wasGranted_10 : decode b_A_wasGranted 10 = .ok (.ireturn, 1) := by decide +kernel
theorem d_A_keepsUnder_0 : decode b_A_keepsUnder 0 = .ok (.aload_n 0, 1) := by decide +kernel
theorem d_A_keepsUnder_1 : decode b_A_keepsUnder 1 = .ok (.getfield 46, 3) := by decide +kernel
theorem d_A_keepsUnder_4 : decode b_A_keepsUnder 4 = .ok (.iload_n 1, 1) := by decide +kernel
theorem d_A_keepsUnder_5 : decode b_A_keepsUnder 5 = .ok (.bipush 8, 2) := by decide +kernel
theorem d_A_keepsUnder_7 : decode b_A_keepsUnder 7 = .ok (.invokestatic 61, 3) := by decide +kernel
theorem d_A_keepsUnder_10 : decode b_A_keepsUnder 10 = .ok (.ireturn, 1) := by decide +kernel
theorem d_A_valueUnder_0 : decode b_A_valueUnder 0 = .ok (.aload_n 0, 1) := by decide +kernel
theorem d_A_valueUnder_1 : decode b_A_valueUnder 1 = .ok (.iload_n 1, 1) := by decide +kernel
theorem d_A_valueUnder_2 : decode b_A_valueUnder 2 = .ok (.invokevirtual 65, 3) := by decide +kernel
theorem d_A_valueUnder_5 : decode b_A_valueUnder 5 = .ok (.ifCond .eq 12, 3) := by decide +kernel
theorem d_A_valueUnder_8 : decode b_A_valueUnder 8 = .ok (.aload_n 0, 1) := by decide +kernel
theorem d_A_valueUnder_9 : decode b_A_valueUnder 9 = .ok (.getfield 18, 3) := by decide +kernel
theorem d_A_valueUnder_12 : decode b_A_valueUnder 12 = .ok (.iload_n 1, 1) := by decide +kernel
theorem d_A_valueUnder_13 : decode b_A_valueUnder 13 = .ok (.iaload, 1) := by decide +kernel
theorem d_A_valueUnder_14 : decode b_A_valueUnder 14 = .ok (.goto 4, 3) := by decide +kernel
theorem d_A_valueUnder_17 : decode b_A_valueUnder 17 = .ok (.iconst 0, 1) := by decide +kernel
theorem d_A_valueUnder_18 : decode b_A_valueUnder 18 = .ok (.ireturn, 1) := by decide +kernel
theorem d_A_wordInPlace_0 : decode b_A_wordInPlace 0 = .ok (.aload_n 0, 1) := by decide +kernel
theorem d_A_wordInPlace_1 : decode b_A_wordInPlace 1 = .ok (.getfield 49, 3) := by decide +kernel
theorem d_A_wordInPlace_4 : decode b_A_wordInPlace 4 = .ok (.aload_n 0, 1) := by decide +kernel
theorem d_A_wordInPlace_5 : decode b_A_wordInPlace 5 = .ok (.getfield 12, 3) := by decide +kernel
theorem d_A_wordInPlace_8 : decode b_A_wordInPlace 8 = .ok (.getfield 69, 3) := by decide +kernel
theorem d_A_wordInPlace_11 : decode b_A_wordInPlace 11 = .ok (.invokestatic 72, 3) := by decide +kernel
theorem d_A_wordInPlace_14 : decode b_A_wordInPlace 14 = .ok (.ifCond .eq 18, 3) := by decide +kernel
theorem d_A_wordInPlace_17 : decode b_A_wordInPlace 17 = .ok (.aload_n 0, 1) := by decide +kernel
theorem d_A_wordInPlace_18 : decode b_A_wordInPlace 18 = .ok (.getfield 12, 3) := by decide +kernel
theorem d_A_wordInPlace_21 : decode b_A_wordInPlace 21 = .ok (.getfield 76, 3) := by decide +kernel
theorem d_A_wordInPlace_24 : decode b_A_wordInPlace 24 = .ok (.aload_n 0, 1) := by decide +kernel
theorem d_A_wordInPlace_25 : decode b_A_wordInPlace 25 = .ok (.getfield 49, 3) := by decide +kernel
theorem d_A_wordInPlace_28 : decode b_A_wordInPlace 28 = .ok (.iaload, 1) := by decide +kernel
theorem d_A_wordInPlace_29 : decode b_A_wordInPlace 29 = .ok (.goto 4, 3) := by decide +kernel
theorem d_A_wordInPlace_32 : decode b_A_wordInPlace 32 = .ok (.iconst 0, 1) := by decide +kernel
theorem d_A_wordInPlace_33 : decode b_A_wordInPlace 33 = .ok (.ireturn, 1) := by decide +kernel
theorem d_A_uppermost_0 : decode b_A_uppermost 0 = .ok (.aload_n 0, 1) := by decide +kernel
theorem d_A_uppermost_1 : decode b_A_uppermost 1 = .ok (.getfield 52, 3) := by decide +kernel
theorem d_A_uppermost_4 : decode b_A_uppermost 4 = .ok (.iconst 1, 1) := by decide +kernel
theorem d_A_uppermost_5 : decode b_A_uppermost 5 = .ok (.isub, 1) := by decide +kernel
theorem d_A_uppermost_6 : decode b_A_uppermost 6 = .ok (.bipush 6, 2) := by decide +kernel
theorem d_A_uppermost_8 : decode b_A_uppermost 8 = .ok (.invokestatic 72, 3) := by decide +kernel
theorem d_A_uppermost_11 : decode b_A_uppermost 11 = .ok (.ifCond .eq 17, 3) := by decide +kernel
theorem d_A_uppermost_14 : decode b_A_uppermost 14 = .ok (.aload_n 0, 1) := by decide +kernel
theorem d_A_uppermost_15 : decode b_A_uppermost 15 = .ok (.getfield 22, 3) := by decide +kernel
theorem d_A_uppermost_18 : decode b_A_uppermost 18 = .ok (.aload_n 0, 1) := by decide +kernel
theorem d_A_uppermost_19 : decode b_A_uppermost 19 = .ok (.getfield 52, 3) := by decide +kernel
theorem d_A_uppermost_22 : decode b_A_uppermost 22 = .ok (.iconst 1, 1) := by decide +kernel
theorem d_A_uppermost_23 : decode b_A_uppermost 23 = .ok (.isub, 1) := by decide +kernel
theorem d_A_uppermost_24 : decode b_A_uppermost 24 = .ok (.iaload, 1) := by decide +kernel
theorem d_A_uppermost_25 : decode b_A_uppermost 25 = .ok (.goto 4, 3) := by decide +kernel
theorem d_A_uppermost_28 : decode b_A_uppermost 28 = .ok (.iconst 0, 1) := by decide +kernel
theorem d_A_uppermost_29 : decode b_A_uppermost 29 = .ok (.ireturn, 1) := by decide +kernel
theorem d_A_secondUppermost_0 : decode b_A_secondUppermost 0 = .ok (.aload_n 0, 1) := by decide +kernel
theorem d_A_secondUppermost_1 : decode b_A_secondUppermost 1 = .ok (.getfield 52, 3) := by decide +kernel
theorem d_A_secondUppermost_4 : decode b_A_secondUppermost 4 = .ok (.iconst 2, 1) := by decide +kernel
theorem d_A_secondUppermost_5 : decode b_A_secondUppermost 5 = .ok (.isub, 1) := by decide +kernel
theorem d_A_secondUppermost_6 : decode b_A_secondUppermost 6 = .ok (.bipush 6, 2) := by decide +kernel
theorem d_A_secondUppermost_8 : decode b_A_secondUppermost 8 = .ok (.invokestatic 72, 3) := by decide +kernel
theorem d_A_secondUppermost_11 : decode b_A_secondUppermost 11 = .ok (.ifCond .eq 17, 3) := by decide +kernel
theorem d_A_secondUppermost_14 : decode b_A_secondUppermost 14 = .ok (.aload_n 0, 1) := by decide +kernel
theorem d_A_secondUppermost_15 : decode b_A_secondUppermost 15 = .ok (.getfield 22, 3) := by decide +kernel
theorem d_A_secondUppermost_18 : decode b_A_secondUppermost 18 = .ok (.aload_n 0, 1) := by decide +kernel
theorem d_A_secondUppermost_19 : decode b_A_secondUppermost 19 = .ok (.getfield 52, 3) := by decide +kernel
theorem d_A_secondUppermost_22 : decode b_A_secondUppermost 22 = .ok (.iconst 2, 1) := by decide +kernel
theorem d_A_secondUppermost_23 : decode b_A_secondUppermost 23 = .ok (.isub, 1) := by decide +kernel
theorem d_A_secondUppermost_24 : decode b_A_secondUppermost 24 = .ok (.iaload, 1) := by decide +kernel
theorem d_A_secondUppermost_25 : decode b_A_secondUppermost 25 = .ok (.goto 4, 3) := by decide +kernel
theorem d_A_secondUppermost_28 : decode b_A_secondUppermost 28 = .ok (.iconst 0, 1) := by decide +kernel
theorem d_A_secondUppermost_29 : decode b_A_secondUppermost 29 = .ok (.ireturn, 1) := by decide +kernel
theorem d_A_push_0 : decode b_A_push 0 = .ok (.aload_n 0, 1) := by decide +kernel
theorem d_A_push_1 : decode b_A_push 1 = .ok (.getfield 52, 3) := by decide +kernel
theorem d_A_push_4 : decode b_A_push 4 = .ok (.bipush 6, 2) := by decide +kernel
theorem d_A_push_6 : decode b_A_push 6 = .ok (.invokestatic 72, 3) := by decide +kernel
theorem d_A_push_9 : decode b_A_push 9 = .ok (.ifCond .eq 23, 3) := by decide +kernel
theorem d_A_push_12 : decode b_A_push 12 = .ok (.aload_n 0, 1) := by decide +kernel
theorem d_A_push_13 : decode b_A_push 13 = .ok (.getfield 22, 3) := by decide +kernel
theorem d_A_push_16 : decode b_A_push 16 = .ok (.aload_n 0, 1) := by decide +kernel
theorem d_A_push_17 : decode b_A_push 17 = .ok (.getfield 52, 3) := by decide +kernel
theorem d_A_push_20 : decode b_A_push 20 = .ok (.iload_n 1, 1) := by decide +kernel
theorem d_A_push_21 : decode b_A_push 21 = .ok (.iastore, 1) := by decide +kernel
theorem d_A_push_22 : decode b_A_push 22 = .ok (.aload_n 0, 1) := by decide +kernel
theorem d_A_push_23 : decode b_A_push 23 = .ok (.dup, 1) := by decide +kernel
theorem d_A_push_24 : decode b_A_push 24 = .ok (.getfield 52, 3) := by decide +kernel
theorem d_A_push_27 : decode b_A_push 27 = .ok (.iconst 1, 1) := by decide +kernel
theorem d_A_push_28 : decode b_A_push 28 = .ok (.iadd, 1) := by decide +kernel
theorem d_A_push_29 : decode b_A_push 29 = .ok (.putfield 52, 3) := by decide +kernel
theorem d_A_push_32 : decode b_A_push 32 = .ok (.return_, 1) := by decide +kernel
theorem d_A_pop_0 : decode b_A_pop 0 = .ok (.aload_n 0, 1) := by decide +kernel
theorem d_A_pop_1 : decode b_A_pop 1 = .ok (.invokevirtual 79, 3) := by decide +kernel
theorem d_A_pop_4 : decode b_A_pop 4 = .ok (.istore_n 1, 1) := by decide +kernel
theorem d_A_pop_5 : decode b_A_pop 5 = .ok (.aload_n 0, 1) := by decide +kernel
theorem d_A_pop_6 : decode b_A_pop 6 = .ok (.aload_n 0, 1) := by decide +kernel
theorem d_A_pop_7 : decode b_A_pop 7 = .ok (.getfield 52, 3) := by decide +kernel
theorem d_A_pop_10 : decode b_A_pop 10 = .ok (.iconst 1, 1) := by decide +kernel
theorem d_A_pop_11 : decode b_A_pop 11 = .ok (.isub, 1) := by decide +kernel
theorem d_A_pop_12 : decode b_A_pop 12 = .ok (.iconst 0, 1) := by decide +kernel
theorem d_A_pop_13 : decode b_A_pop 13 = .ok (.invokestatic 83, 3) := by decide +kernel
theorem d_A_pop_16 : decode b_A_pop 16 = .ok (.putfield 52, 3) := by decide +kernel
theorem d_A_pop_19 : decode b_A_pop 19 = .ok (.iload_n 1, 1) := by decide +kernel
theorem d_A_pop_20 : decode b_A_pop 20 = .ok (.ireturn, 1) := by decide +kernel
theorem d_A_doTurn_0 : decode b_A_doTurn 0 = .ok (.iload_n 1, 1) := by decide +kernel
theorem d_A_doTurn_1 : decode b_A_doTurn 1 = .ok (.ifCond .ne 9, 3) := by decide +kernel
theorem d_A_doTurn_4 : decode b_A_doTurn 4 = .ok (.aload_n 0, 1) := by decide +kernel
theorem d_A_doTurn_5 : decode b_A_doTurn 5 = .ok (.iconst 0, 1) := by decide +kernel
theorem d_A_doTurn_6 : decode b_A_doTurn 6 = .ok (.putfield 39, 3) := by decide +kernel
theorem d_A_doTurn_9 : decode b_A_doTurn 9 = .ok (.return_, 1) := by decide +kernel
theorem d_A_doTurn_10 : decode b_A_doTurn 10 = .ok (.iload_n 1, 1) := by decide +kernel
theorem d_A_doTurn_11 : decode b_A_doTurn 11 = .ok (.bipush 8, 2) := by decide +kernel
theorem d_A_doTurn_13 : decode b_A_doTurn 13 = .ok (.if_icmp .eq 10, 3) := by decide +kernel
theorem d_A_doTurn_16 : decode b_A_doTurn 16 = .ok (.aload_n 0, 1) := by decide +kernel
theorem d_A_doTurn_17 : decode b_A_doTurn 17 = .ok (.invokevirtual 89, 3) := by decide +kernel
theorem d_A_doTurn_20 : decode b_A_doTurn 20 = .ok (.ifCond .ne 7, 3) := by decide +kernel
theorem d_A_doTurn_23 : decode b_A_doTurn 23 = .ok (.iconst 1, 1) := by decide +kernel
theorem d_A_doTurn_24 : decode b_A_doTurn 24 = .ok (.goto 4, 3) := by decide +kernel
theorem d_A_doTurn_27 : decode b_A_doTurn 27 = .ok (.iconst 0, 1) := by decide +kernel
theorem d_A_doTurn_28 : decode b_A_doTurn 28 = .ok (.istore_n 3, 1) := by decide +kernel
theorem d_A_doTurn_29 : decode b_A_doTurn 29 = .ok (.aload_n 0, 1) := by decide +kernel
theorem d_A_doTurn_30 : decode b_A_doTurn 30 = .ok (.dup, 1) := by decide +kernel
theorem d_A_doTurn_31 : decode b_A_doTurn 31 = .ok (.getfield 49, 3) := by decide +kernel
theorem d_A_doTurn_34 : decode b_A_doTurn 34 = .ok (.iload_n 3, 1) := by decide +kernel
theorem d_A_doTurn_35 : decode b_A_doTurn 35 = .ok (.ifCond .eq 7, 3) := by decide +kernel
theorem d_A_doTurn_38 : decode b_A_doTurn 38 = .ok (.iload_n 2, 1) := by decide +kernel
theorem d_A_doTurn_39 : decode b_A_doTurn 39 = .ok (.goto 4, 3) := by decide +kernel
theorem d_A_doTurn_42 : decode b_A_doTurn 42 = .ok (.iconst 1, 1) := by decide +kernel
theorem d_A_doTurn_43 : decode b_A_doTurn 43 = .ok (.iadd, 1) := by decide +kernel
theorem d_A_doTurn_44 : decode b_A_doTurn 44 = .ok (.putfield 49, 3) := by decide +kernel
theorem d_A_doTurn_47 : decode b_A_doTurn 47 = .ok (.return_, 1) := by decide +kernel
theorem d_A_doPlainWord_0 : decode b_A_doPlainWord 0 = .ok (.iload_n 1, 1) := by decide +kernel
theorem d_A_doPlainWord_1 : decode b_A_doPlainWord 1 = .ok (.tableswitch 141 1 7 #[43, 51, 67, 85, 96, 104, 129], 43) := by decide +kernel
theorem d_A_doPlainWord_44 : decode b_A_doPlainWord 44 = .ok (.aload_n 0, 1) := by decide +kernel
theorem d_A_doPlainWord_45 : decode b_A_doPlainWord 45 = .ok (.iload_n 2, 1) := by decide +kernel
theorem d_A_doPlainWord_46 : decode b_A_doPlainWord 46 = .ok (.invokevirtual 92, 3) := by decide +kernel
theorem d_A_doPlainWord_49 : decode b_A_doPlainWord 49 = .ok (.goto 93, 3) := by decide +kernel
theorem d_A_doPlainWord_52 : decode b_A_doPlainWord 52 = .ok (.aload_n 0, 1) := by decide +kernel
theorem d_A_doPlainWord_53 : decode b_A_doPlainWord 53 = .ok (.aload_n 0, 1) := by decide +kernel
theorem d_A_doPlainWord_54 : decode b_A_doPlainWord 54 = .ok (.invokevirtual 89, 3) := by decide +kernel
theorem d_A_doPlainWord_57 : decode b_A_doPlainWord 57 = .ok (.aload_n 0, 1) := by decide +kernel
theorem d_A_doPlainWord_58 : decode b_A_doPlainWord 58 = .ok (.invokevirtual 89, 3) := by decide +kernel
theorem d_A_doPlainWord_61 : decode b_A_doPlainWord 61 = .ok (.iadd, 1) := by decide +kernel
theorem d_A_doPlainWord_62 : decode b_A_doPlainWord 62 = .ok (.invokevirtual 92, 3) := by decide +kernel
theorem d_A_doPlainWord_65 : decode b_A_doPlainWord 65 = .ok (.goto 77, 3) := by decide +kernel
theorem d_A_doPlainWord_68 : decode b_A_doPlainWord 68 = .ok (.aload_n 0, 1) := by decide +kernel
theorem d_A_doPlainWord_69 : decode b_A_doPlainWord 69 = .ok (.invokevirtual 89, 3) := by decide +kernel
theorem d_A_doPlainWord_72 : decode b_A_doPlainWord 72 = .ok (.istore_n 3, 1) := by decide +kernel
theorem d_A_doPlainWord_73 : decode b_A_doPlainWord 73 = .ok (.aload_n 0, 1) := by decide +kernel
theorem d_A_doPlainWord_74 : decode b_A_doPlainWord 74 = .ok (.aload_n 0, 1) := by decide +kernel
theorem d_A_doPlainWord_75 : decode b_A_doPlainWord 75 = .ok (.invokevirtual 89, 3) := by decide +kernel
theorem d_A_doPlainWord_78 : decode b_A_doPlainWord 78 = .ok (.iload_n 3, 1) := by decide +kernel
theorem d_A_doPlainWord_79 : decode b_A_doPlainWord 79 = .ok (.isub, 1) := by decide +kernel
theorem d_A_doPlainWord_80 : decode b_A_doPlainWord 80 = .ok (.invokevirtual 92, 3) := by decide +kernel
theorem d_A_doPlainWord_83 : decode b_A_doPlainWord 83 = .ok (.goto 59, 3) := by decide +kernel
theorem d_A_doPlainWord_86 : decode b_A_doPlainWord 86 = .ok (.aload_n 0, 1) := by decide +kernel
theorem d_A_doPlainWord_87 : decode b_A_doPlainWord 87 = .ok (.aload_n 0, 1) := by decide +kernel
theorem d_A_doPlainWord_88 : decode b_A_doPlainWord 88 = .ok (.invokevirtual 79, 3) := by decide +kernel
theorem d_A_doPlainWord_91 : decode b_A_doPlainWord 91 = .ok (.invokevirtual 92, 3) := by decide +kernel
theorem d_A_doPlainWord_94 : decode b_A_doPlainWord 94 = .ok (.goto 48, 3) := by decide +kernel
theorem d_A_doPlainWord_97 : decode b_A_doPlainWord 97 = .ok (.aload_n 0, 1) := by decide +kernel
theorem d_A_doPlainWord_98 : decode b_A_doPlainWord 98 = .ok (.invokevirtual 89, 3) := by decide +kernel
theorem d_A_doPlainWord_101 : decode b_A_doPlainWord 101 = .ok (.pop, 1) := by decide +kernel
theorem d_A_doPlainWord_102 : decode b_A_doPlainWord 102 = .ok (.goto 40, 3) := by decide +kernel
theorem d_A_doPlainWord_105 : decode b_A_doPlainWord 105 = .ok (.aload_n 0, 1) := by decide +kernel
theorem d_A_doPlainWord_106 : decode b_A_doPlainWord 106 = .ok (.iload_n 2, 1) := by decide +kernel
theorem d_A_doPlainWord_107 : decode b_A_doPlainWord 107 = .ok (.iconst 4, 1) := by decide +kernel
theorem d_A_doPlainWord_108 : decode b_A_doPlainWord 108 = .ok (.invokestatic 72, 3) := by decide +kernel
theorem d_A_doPlainWord_111 : decode b_A_doPlainWord 111 = .ok (.ifCond .eq 12, 3) := by decide +kernel
theorem d_A_doPlainWord_114 : decode b_A_doPlainWord 114 = .ok (.aload_n 0, 1) := by decide +kernel
theorem d_A_doPlainWord_115 : decode b_A_doPlainWord 115 = .ok (.getfield 25, 3) := by decide +kernel
theorem d_A_doPlainWord_118 : decode b_A_doPlainWord 118 = .ok (.iload_n 2, 1) := by decide +kernel
theorem d_A_doPlainWord_119 : decode b_A_doPlainWord 119 = .ok (.iaload, 1) := by decide +kernel
theorem d_A_doPlainWord_120 : decode b_A_doPlainWord 120 = .ok (.goto 4, 3) := by decide +kernel
theorem d_A_doPlainWord_123 : decode b_A_doPlainWord 123 = .ok (.iconst 0, 1) := by decide +kernel
theorem d_A_doPlainWord_124 : decode b_A_doPlainWord 124 = .ok (.invokevirtual 92, 3) := by decide +kernel
theorem d_A_doPlainWord_127 : decode b_A_doPlainWord 127 = .ok (.goto 15, 3) := by decide +kernel
theorem d_A_doPlainWord_130 : decode b_A_doPlainWord 130 = .ok (.aload_n 0, 1) := by decide +kernel
theorem d_A_doPlainWord_131 : decode b_A_doPlainWord 131 = .ok (.iload_n 2, 1) := by decide +kernel
theorem d_A_doPlainWord_132 : decode b_A_doPlainWord 132 = .ok (.aload_n 0, 1) := by decide +kernel
theorem d_A_doPlainWord_133 : decode b_A_doPlainWord 133 = .ok (.invokevirtual 89, 3) := by decide +kernel
theorem d_A_doPlainWord_136 : decode b_A_doPlainWord 136 = .ok (.invokevirtual 96, 3) := by decide +kernel
theorem d_A_doPlainWord_139 : decode b_A_doPlainWord 139 = .ok (.goto 3, 3) := by decide +kernel
theorem d_A_doPlainWord_142 : decode b_A_doPlainWord 142 = .ok (.aload_n 0, 1) := by decide +kernel
theorem d_A_doPlainWord_143 : decode b_A_doPlainWord 143 = .ok (.dup, 1) := by decide +kernel
theorem d_A_doPlainWord_144 : decode b_A_doPlainWord 144 = .ok (.getfield 49, 3) := by decide +kernel
theorem d_A_doPlainWord_147 : decode b_A_doPlainWord 147 = .ok (.iconst 1, 1) := by decide +kernel
theorem d_A_doPlainWord_148 : decode b_A_doPlainWord 148 = .ok (.iadd, 1) := by decide +kernel
theorem d_A_doPlainWord_149 : decode b_A_doPlainWord 149 = .ok (.putfield 49, 3) := by decide +kernel
theorem d_A_doPlainWord_152 : decode b_A_doPlainWord 152 = .ok (.return_, 1) := by decide +kernel
theorem d_A_storeInto_0 : decode b_A_storeInto 0 = .ok (.iload_n 1, 1) := by decide +kernel
theorem d_A_storeInto_1 : decode b_A_storeInto 1 = .ok (.iconst 4, 1) := by decide +kernel
theorem d_A_storeInto_2 : decode b_A_storeInto 2 = .ok (.invokestatic 72, 3) := by decide +kernel
theorem d_A_storeInto_5 : decode b_A_storeInto 5 = .ok (.ifCond .eq 10, 3) := by decide +kernel
theorem d_A_storeInto_8 : decode b_A_storeInto 8 = .ok (.aload_n 0, 1) := by decide +kernel
theorem d_A_storeInto_9 : decode b_A_storeInto 9 = .ok (.getfield 25, 3) := by decide +kernel
theorem d_A_storeInto_12 : decode b_A_storeInto 12 = .ok (.iload_n 1, 1) := by decide +kernel
theorem d_A_storeInto_13 : decode b_A_storeInto 13 = .ok (.iload_n 2, 1) := by decide +kernel
theorem d_A_storeInto_14 : decode b_A_storeInto 14 = .ok (.iastore, 1) := by decide +kernel
theorem d_A_storeInto_15 : decode b_A_storeInto 15 = .ok (.return_, 1) := by decide +kernel
theorem d_A_getKept_0 : decode b_A_getKept 0 = .ok (.aload_n 0, 1) := by decide +kernel
theorem d_A_getKept_1 : decode b_A_getKept 1 = .ok (.invokevirtual 79, 3) := by decide +kernel
theorem d_A_getKept_4 : decode b_A_getKept 4 = .ok (.istore_n 1, 1) := by decide +kernel
theorem d_A_getKept_5 : decode b_A_getKept 5 = .ok (.iload_n 1, 1) := by decide +kernel
theorem d_A_getKept_6 : decode b_A_getKept 6 = .ok (.bipush 8, 2) := by decide +kernel
theorem d_A_getKept_8 : decode b_A_getKept 8 = .ok (.invokestatic 72, 3) := by decide +kernel
theorem d_A_getKept_11 : decode b_A_getKept 11 = .ok (.ifCond .ne 5, 3) := by decide +kernel
theorem d_A_getKept_14 : decode b_A_getKept 14 = .ok (.iconst 0, 1) := by decide +kernel
theorem d_A_getKept_15 : decode b_A_getKept 15 = .ok (.ireturn, 1) := by decide +kernel
theorem d_A_getKept_16 : decode b_A_getKept 16 = .ok (.aload_n 0, 1) := by decide +kernel
theorem d_A_getKept_17 : decode b_A_getKept 17 = .ok (.invokevirtual 89, 3) := by decide +kernel
theorem d_A_getKept_20 : decode b_A_getKept 20 = .ok (.pop, 1) := by decide +kernel
theorem d_A_getKept_21 : decode b_A_getKept 21 = .ok (.aload_n 0, 1) := by decide +kernel
theorem d_A_getKept_22 : decode b_A_getKept 22 = .ok (.aload_n 0, 1) := by decide +kernel
theorem d_A_getKept_23 : decode b_A_getKept 23 = .ok (.iload_n 1, 1) := by decide +kernel
theorem d_A_getKept_24 : decode b_A_getKept 24 = .ok (.invokevirtual 100, 3) := by decide +kernel
theorem d_A_getKept_27 : decode b_A_getKept 27 = .ok (.invokevirtual 92, 3) := by decide +kernel
theorem d_A_getKept_30 : decode b_A_getKept 30 = .ok (.aload_n 0, 1) := by decide +kernel
theorem d_A_getKept_31 : decode b_A_getKept 31 = .ok (.dup, 1) := by decide +kernel
theorem d_A_getKept_32 : decode b_A_getKept 32 = .ok (.getfield 49, 3) := by decide +kernel
theorem d_A_getKept_35 : decode b_A_getKept 35 = .ok (.iconst 1, 1) := by decide +kernel
theorem d_A_getKept_36 : decode b_A_getKept 36 = .ok (.iadd, 1) := by decide +kernel
theorem d_A_getKept_37 : decode b_A_getKept 37 = .ok (.putfield 49, 3) := by decide +kernel
theorem d_A_getKept_40 : decode b_A_getKept 40 = .ok (.iconst 1, 1) := by decide +kernel
theorem d_A_getKept_41 : decode b_A_getKept 41 = .ok (.ireturn, 1) := by decide +kernel
theorem d_A_keepUppermost_0 : decode b_A_keepUppermost 0 = .ok (.aload_n 0, 1) := by decide +kernel
theorem d_A_keepUppermost_1 : decode b_A_keepUppermost 1 = .ok (.invokevirtual 104, 3) := by decide +kernel
theorem d_A_keepUppermost_4 : decode b_A_keepUppermost 4 = .ok (.istore_n 1, 1) := by decide +kernel
theorem d_A_keepUppermost_5 : decode b_A_keepUppermost 5 = .ok (.iload_n 1, 1) := by decide +kernel
theorem d_A_keepUppermost_6 : decode b_A_keepUppermost 6 = .ok (.bipush 8, 2) := by decide +kernel
theorem d_A_keepUppermost_8 : decode b_A_keepUppermost 8 = .ok (.invokestatic 72, 3) := by decide +kernel
theorem d_A_keepUppermost_11 : decode b_A_keepUppermost 11 = .ok (.ifCond .eq 22, 3) := by decide +kernel
theorem d_A_keepUppermost_14 : decode b_A_keepUppermost 14 = .ok (.aload_n 0, 1) := by decide +kernel
theorem d_A_keepUppermost_15 : decode b_A_keepUppermost 15 = .ok (.iload_n 1, 1) := by decide +kernel
theorem d_A_keepUppermost_16 : decode b_A_keepUppermost 16 = .ok (.invokevirtual 65, 3) := by decide +kernel
theorem d_A_keepUppermost_19 : decode b_A_keepUppermost 19 = .ok (.ifCond .ne 16, 3) := by decide +kernel
theorem d_A_keepUppermost_22 : decode b_A_keepUppermost 22 = .ok (.aload_n 0, 1) := by decide +kernel
theorem d_A_keepUppermost_23 : decode b_A_keepUppermost 23 = .ok (.getfield 46, 3) := by decide +kernel
theorem d_A_keepUppermost_26 : decode b_A_keepUppermost 26 = .ok (.invokestatic 107, 3) := by decide +kernel
theorem d_A_keepUppermost_29 : decode b_A_keepUppermost 29 = .ok (.iconst 3, 1) := by decide +kernel
theorem d_A_keepUppermost_30 : decode b_A_keepUppermost 30 = .ok (.if_icmp .lt 5, 3) := by decide +kernel
theorem d_A_keepUppermost_33 : decode b_A_keepUppermost 33 = .ok (.iconst 0, 1) := by decide +kernel
theorem d_A_keepUppermost_34 : decode b_A_keepUppermost 34 = .ok (.ireturn, 1) := by decide +kernel
theorem d_A_keepUppermost_35 : decode b_A_keepUppermost 35 = .ok (.aload_n 0, 1) := by decide +kernel
theorem d_A_keepUppermost_36 : decode b_A_keepUppermost 36 = .ok (.dup, 1) := by decide +kernel
theorem d_A_keepUppermost_37 : decode b_A_keepUppermost 37 = .ok (.getfield 46, 3) := by decide +kernel
theorem d_A_keepUppermost_40 : decode b_A_keepUppermost 40 = .ok (.iconst 1, 1) := by decide +kernel
theorem d_A_keepUppermost_41 : decode b_A_keepUppermost 41 = .ok (.iload_n 1, 1) := by decide +kernel
theorem d_A_keepUppermost_42 : decode b_A_keepUppermost 42 = .ok (.ishl, 1) := by decide +kernel
theorem d_A_keepUppermost_43 : decode b_A_keepUppermost 43 = .ok (.ior, 1) := by decide +kernel
theorem d_A_keepUppermost_44 : decode b_A_keepUppermost 44 = .ok (.putfield 46, 3) := by decide +kernel
theorem d_A_keepUppermost_47 : decode b_A_keepUppermost 47 = .ok (.aload_n 0, 1) := by decide +kernel
theorem d_A_keepUppermost_48 : decode b_A_keepUppermost 48 = .ok (.getfield 18, 3) := by decide +kernel
theorem d_A_keepUppermost_51 : decode b_A_keepUppermost 51 = .ok (.iload_n 1, 1) := by decide +kernel
theorem d_A_keepUppermost_52 : decode b_A_keepUppermost 52 = .ok (.aload_n 0, 1) := by decide +kernel
theorem d_A_keepUppermost_53 : decode b_A_keepUppermost 53 = .ok (.invokevirtual 89, 3) := by decide +kernel
theorem d_A_keepUppermost_56 : decode b_A_keepUppermost 56 = .ok (.iastore, 1) := by decide +kernel
theorem d_A_keepUppermost_57 : decode b_A_keepUppermost 57 = .ok (.aload_n 0, 1) := by decide +kernel
theorem d_A_keepUppermost_58 : decode b_A_keepUppermost 58 = .ok (.invokevirtual 89, 3) := by decide +kernel
theorem d_A_keepUppermost_61 : decode b_A_keepUppermost 61 = .ok (.pop, 1) := by decide +kernel
theorem d_A_keepUppermost_62 : decode b_A_keepUppermost 62 = .ok (.aload_n 0, 1) := by decide +kernel
theorem d_A_keepUppermost_63 : decode b_A_keepUppermost 63 = .ok (.dup, 1) := by decide +kernel
theorem d_A_keepUppermost_64 : decode b_A_keepUppermost 64 = .ok (.getfield 49, 3) := by decide +kernel
theorem d_A_keepUppermost_67 : decode b_A_keepUppermost 67 = .ok (.iconst 1, 1) := by decide +kernel
theorem d_A_keepUppermost_68 : decode b_A_keepUppermost 68 = .ok (.iadd, 1) := by decide +kernel
theorem d_A_keepUppermost_69 : decode b_A_keepUppermost 69 = .ok (.putfield 49, 3) := by decide +kernel
theorem d_A_keepUppermost_72 : decode b_A_keepUppermost 72 = .ok (.iconst 1, 1) := by decide +kernel
theorem d_A_keepUppermost_73 : decode b_A_keepUppermost 73 = .ok (.ireturn, 1) := by decide +kernel
theorem d_Q_init_0 : decode b_Q_init 0 = .ok (.aload_n 0, 1) := by decide +kernel
theorem d_Q_init_1 : decode b_Q_init 1 = .ok (.invokespecial 3, 3) := by decide +kernel
theorem d_Q_init_4 : decode b_Q_init 4 = .ok (.aload_n 0, 1) := by decide +kernel
theorem d_Q_init_5 : decode b_Q_init 5 = .ok (.bipush 8, 2) := by decide +kernel
theorem d_Q_init_7 : decode b_Q_init 7 = .ok (.newarray .int, 2) := by decide +kernel
theorem d_Q_init_9 : decode b_Q_init 9 = .ok (.putfield 9, 3) := by decide +kernel
theorem d_Q_init_12 : decode b_Q_init 12 = .ok (.aload_n 0, 1) := by decide +kernel
theorem d_Q_init_13 : decode b_Q_init 13 = .ok (.bipush 8, 2) := by decide +kernel
theorem d_Q_init_15 : decode b_Q_init 15 = .ok (.newarray .int, 2) := by decide +kernel
theorem d_Q_init_17 : decode b_Q_init 17 = .ok (.putfield 15, 3) := by decide +kernel
theorem d_Q_init_20 : decode b_Q_init 20 = .ok (.aload_n 0, 1) := by decide +kernel
theorem d_Q_init_21 : decode b_Q_init 21 = .ok (.bipush 8, 2) := by decide +kernel
theorem d_Q_init_23 : decode b_Q_init 23 = .ok (.newarray .int, 2) := by decide +kernel
theorem d_Q_init_25 : decode b_Q_init 25 = .ok (.putfield 18, 3) := by decide +kernel
theorem d_Q_init_28 : decode b_Q_init 28 = .ok (.return_, 1) := by decide +kernel
theorem d_Q_add_0 : decode b_Q_add 0 = .ok (.aload_n 0, 1) := by decide +kernel
theorem d_Q_add_1 : decode b_Q_add 1 = .ok (.getfield 21, 3) := by decide +kernel
theorem d_Q_add_4 : decode b_Q_add 4 = .ok (.bipush 8, 2) := by decide +kernel
theorem d_Q_add_6 : decode b_Q_add 6 = .ok (.if_icmp .lt 5, 3) := by decide +kernel
theorem d_Q_add_9 : decode b_Q_add 9 = .ok (.iconst 0, 1) := by decide +kernel
theorem d_Q_add_10 : decode b_Q_add 10 = .ok (.ireturn, 1) := by decide +kernel
theorem d_Q_add_11 : decode b_Q_add 11 = .ok (.aload_n 0, 1) := by decide +kernel
theorem d_Q_add_12 : decode b_Q_add 12 = .ok (.aload_n 0, 1) := by decide +kernel
theorem d_Q_add_13 : decode b_Q_add 13 = .ok (.getfield 21, 3) := by decide +kernel
theorem d_Q_add_16 : decode b_Q_add 16 = .ok (.iload_n 1, 1) := by decide +kernel
theorem d_Q_add_17 : decode b_Q_add 17 = .ok (.iload_n 2, 1) := by decide +kernel
theorem d_Q_add_18 : decode b_Q_add 18 = .ok (.iload_n 3, 1) := by decide +kernel
theorem d_Q_add_19 : decode b_Q_add 19 = .ok (.invokevirtual 25, 3) := by decide +kernel
theorem d_Q_add_22 : decode b_Q_add 22 = .ok (.aload_n 0, 1) := by decide +kernel
theorem d_Q_add_23 : decode b_Q_add 23 = .ok (.dup, 1) := by decide +kernel
theorem d_Q_add_24 : decode b_Q_add 24 = .ok (.getfield 21, 3) := by decide +kernel
theorem d_Q_add_27 : decode b_Q_add 27 = .ok (.iconst 1, 1) := by decide +kernel
theorem d_Q_add_28 : decode b_Q_add 28 = .ok (.iadd, 1) := by decide +kernel
theorem d_Q_add_29 : decode b_Q_add 29 = .ok (.putfield 21, 3) := by decide +kernel
theorem d_Q_add_32 : decode b_Q_add 32 = .ok (.iconst 1, 1) := by decide +kernel
theorem d_Q_add_33 : decode b_Q_add 33 = .ok (.ireturn, 1) := by decide +kernel
theorem d_Q_dropFirst_0 : decode b_Q_dropFirst 0 = .ok (.iconst 1, 1) := by decide +kernel
theorem d_Q_dropFirst_1 : decode b_Q_dropFirst 1 = .ok (.istore_n 1, 1) := by decide +kernel
theorem d_Q_dropFirst_2 : decode b_Q_dropFirst 2 = .ok (.iload_n 1, 1) := by decide +kernel
theorem d_Q_dropFirst_3 : decode b_Q_dropFirst 3 = .ok (.aload_n 0, 1) := by decide +kernel
theorem d_Q_dropFirst_4 : decode b_Q_dropFirst 4 = .ok (.getfield 21, 3) := by decide +kernel
theorem d_Q_dropFirst_7 : decode b_Q_dropFirst 7 = .ok (.if_icmp .ge 34, 3) := by decide +kernel
theorem d_Q_dropFirst_10 : decode b_Q_dropFirst 10 = .ok (.aload_n 0, 1) := by decide +kernel
theorem d_Q_dropFirst_11 : decode b_Q_dropFirst 11 = .ok (.iload_n 1, 1) := by decide +kernel
theorem d_Q_dropFirst_12 : decode b_Q_dropFirst 12 = .ok (.iconst 1, 1) := by decide +kernel
theorem d_Q_dropFirst_13 : decode b_Q_dropFirst 13 = .ok (.isub, 1) := by decide +kernel
theorem d_Q_dropFirst_14 : decode b_Q_dropFirst 14 = .ok (.aload_n 0, 1) := by decide +kernel
theorem d_Q_dropFirst_15 : decode b_Q_dropFirst 15 = .ok (.getfield 9, 3) := by decide +kernel
theorem d_Q_dropFirst_18 : decode b_Q_dropFirst 18 = .ok (.iload_n 1, 1) := by decide +kernel
theorem d_Q_dropFirst_19 : decode b_Q_dropFirst 19 = .ok (.iaload, 1) := by decide +kernel
theorem d_Q_dropFirst_20 : decode b_Q_dropFirst 20 = .ok (.aload_n 0, 1) := by decide +kernel
theorem d_Q_dropFirst_21 : decode b_Q_dropFirst 21 = .ok (.getfield 15, 3) := by decide +kernel
theorem d_Q_dropFirst_24 : decode b_Q_dropFirst 24 = .ok (.iload_n 1, 1) := by decide +kernel
theorem d_Q_dropFirst_25 : decode b_Q_dropFirst 25 = .ok (.iaload, 1) := by decide +kernel
theorem d_Q_dropFirst_26 : decode b_Q_dropFirst 26 = .ok (.aload_n 0, 1) := by decide +kernel
theorem d_Q_dropFirst_27 : decode b_Q_dropFirst 27 = .ok (.getfield 18, 3) := by decide +kernel
theorem d_Q_dropFirst_30 : decode b_Q_dropFirst 30 = .ok (.iload_n 1, 1) := by decide +kernel
theorem d_Q_dropFirst_31 : decode b_Q_dropFirst 31 = .ok (.iaload, 1) := by decide +kernel
theorem d_Q_dropFirst_32 : decode b_Q_dropFirst 32 = .ok (.invokevirtual 25, 3) := by decide +kernel
theorem d_Q_dropFirst_35 : decode b_Q_dropFirst 35 = .ok (.iinc 1 1, 3) := by decide +kernel
theorem d_Q_dropFirst_38 : decode b_Q_dropFirst 38 = .ok (.goto (-36), 3) := by decide +kernel
theorem d_Q_dropFirst_41 : decode b_Q_dropFirst 41 = .ok (.aload_n 0, 1) := by decide +kernel
theorem d_Q_dropFirst_42 : decode b_Q_dropFirst 42 = .ok (.aload_n 0, 1) := by decide +kernel
theorem d_Q_dropFirst_43 : decode b_Q_dropFirst 43 = .ok (.getfield 21, 3) := by decide +kernel
theorem d_Q_dropFirst_46 : decode b_Q_dropFirst 46 = .ok (.iconst 1, 1) := by decide +kernel
theorem d_Q_dropFirst_47 : decode b_Q_dropFirst 47 = .ok (.isub, 1) := by decide +kernel
theorem d_Q_dropFirst_48 : decode b_Q_dropFirst 48 = .ok (.iconst 0, 1) := by decide +kernel
theorem d_Q_dropFirst_49 : decode b_Q_dropFirst 49 = .ok (.invokestatic 29, 3) := by decide +kernel
theorem d_Q_dropFirst_52 : decode b_Q_dropFirst 52 = .ok (.putfield 21, 3) := by decide +kernel
theorem d_Q_dropFirst_55 : decode b_Q_dropFirst 55 = .ok (.return_, 1) := by decide +kernel
theorem d_Q_dropAllOf_0 : decode b_Q_dropAllOf 0 = .ok (.iconst 0, 1) := by decide +kernel
theorem d_Q_dropAllOf_1 : decode b_Q_dropAllOf 1 = .ok (.istore_n 2, 1) := by decide +kernel
theorem d_Q_dropAllOf_2 : decode b_Q_dropAllOf 2 = .ok (.iconst 0, 1) := by decide +kernel
theorem d_Q_dropAllOf_3 : decode b_Q_dropAllOf 3 = .ok (.istore_n 3, 1) := by decide +kernel
theorem d_Q_dropAllOf_4 : decode b_Q_dropAllOf 4 = .ok (.iload_n 3, 1) := by decide +kernel
theorem d_Q_dropAllOf_5 : decode b_Q_dropAllOf 5 = .ok (.aload_n 0, 1) := by decide +kernel
theorem d_Q_dropAllOf_6 : decode b_Q_dropAllOf 6 = .ok (.getfield 21, 3) := by decide +kernel
theorem d_Q_dropAllOf_9 : decode b_Q_dropAllOf 9 = .ok (.if_icmp .ge 45, 3) := by decide +kernel
theorem d_Q_dropAllOf_12 : decode b_Q_dropAllOf 12 = .ok (.aload_n 0, 1) := by decide +kernel
theorem d_Q_dropAllOf_13 : decode b_Q_dropAllOf 13 = .ok (.getfield 9, 3) := by decide +kernel
theorem d_Q_dropAllOf_16 : decode b_Q_dropAllOf 16 = .ok (.iload_n 3, 1) := by decide +kernel
theorem d_Q_dropAllOf_17 : decode b_Q_dropAllOf 17 = .ok (.iaload, 1) := by decide +kernel
theorem d_Q_dropAllOf_18 : decode b_Q_dropAllOf 18 = .ok (.iload_n 1, 1) := by decide +kernel
theorem d_Q_dropAllOf_19 : decode b_Q_dropAllOf 19 = .ok (.if_icmp .eq 29, 3) := by decide +kernel
theorem d_Q_dropAllOf_22 : decode b_Q_dropAllOf 22 = .ok (.aload_n 0, 1) := by decide +kernel
theorem d_Q_dropAllOf_23 : decode b_Q_dropAllOf 23 = .ok (.iload_n 2, 1) := by decide +kernel
theorem d_Q_dropAllOf_24 : decode b_Q_dropAllOf 24 = .ok (.aload_n 0, 1) := by decide +kernel
theorem d_Q_dropAllOf_25 : decode b_Q_dropAllOf 25 = .ok (.getfield 9, 3) := by decide +kernel
theorem d_Q_dropAllOf_28 : decode b_Q_dropAllOf 28 = .ok (.iload_n 3, 1) := by decide +kernel
theorem d_Q_dropAllOf_29 : decode b_Q_dropAllOf 29 = .ok (.iaload, 1) := by decide +kernel
theorem d_Q_dropAllOf_30 : decode b_Q_dropAllOf 30 = .ok (.aload_n 0, 1) := by decide +kernel
theorem d_Q_dropAllOf_31 : decode b_Q_dropAllOf 31 = .ok (.getfield 15, 3) := by decide +kernel
theorem d_Q_dropAllOf_34 : decode b_Q_dropAllOf 34 = .ok (.iload_n 3, 1) := by decide +kernel
theorem d_Q_dropAllOf_35 : decode b_Q_dropAllOf 35 = .ok (.iaload, 1) := by decide +kernel
theorem d_Q_dropAllOf_36 : decode b_Q_dropAllOf 36 = .ok (.aload_n 0, 1) := by decide +kernel
theorem d_Q_dropAllOf_37 : decode b_Q_dropAllOf 37 = .ok (.getfield 18, 3) := by decide +kernel
theorem d_Q_dropAllOf_40 : decode b_Q_dropAllOf 40 = .ok (.iload_n 3, 1) := by decide +kernel
theorem d_Q_dropAllOf_41 : decode b_Q_dropAllOf 41 = .ok (.iaload, 1) := by decide +kernel
theorem d_Q_dropAllOf_42 : decode b_Q_dropAllOf 42 = .ok (.invokevirtual 25, 3) := by decide +kernel
theorem d_Q_dropAllOf_45 : decode b_Q_dropAllOf 45 = .ok (.iinc 2 1, 3) := by decide +kernel
theorem d_Q_dropAllOf_48 : decode b_Q_dropAllOf 48 = .ok (.iinc 3 1, 3) := by decide +kernel
theorem d_Q_dropAllOf_51 : decode b_Q_dropAllOf 51 = .ok (.goto (-47), 3) := by decide +kernel
theorem d_Q_dropAllOf_54 : decode b_Q_dropAllOf 54 = .ok (.aload_n 0, 1) := by decide +kernel
theorem d_Q_dropAllOf_55 : decode b_Q_dropAllOf 55 = .ok (.iload_n 2, 1) := by decide +kernel
theorem d_Q_dropAllOf_56 : decode b_Q_dropAllOf 56 = .ok (.putfield 21, 3) := by decide +kernel
theorem d_Q_dropAllOf_59 : decode b_Q_dropAllOf 59 = .ok (.return_, 1) := by decide +kernel
theorem d_Q_setRow_0 : decode b_Q_setRow 0 = .ok (.aload_n 0, 1) := by decide +kernel
theorem d_Q_setRow_1 : decode b_Q_setRow 1 = .ok (.getfield 9, 3) := by decide +kernel
theorem d_Q_setRow_4 : decode b_Q_setRow 4 = .ok (.iload_n 1, 1) := by decide +kernel
theorem d_Q_setRow_5 : decode b_Q_setRow 5 = .ok (.iload_n 2, 1) := by decide +kernel
theorem d_Q_setRow_6 : decode b_Q_setRow 6 = .ok (.iastore, 1) := by decide +kernel
theorem d_Q_setRow_7 : decode b_Q_setRow 7 = .ok (.aload_n 0, 1) := by decide +kernel
theorem d_Q_setRow_8 : decode b_Q_setRow 8 = .ok (.getfield 15, 3) := by decide +kernel
theorem d_Q_setRow_11 : decode b_Q_setRow 11 = .ok (.iload_n 1, 1) := by decide +kernel
theorem d_Q_setRow_12 : decode b_Q_setRow 12 = .ok (.iload_n 3, 1) := by decide +kernel
theorem d_Q_setRow_13 : decode b_Q_setRow 13 = .ok (.iastore, 1) := by decide +kernel
theorem d_Q_setRow_14 : decode b_Q_setRow 14 = .ok (.aload_n 0, 1) := by decide +kernel
theorem d_Q_setRow_15 : decode b_Q_setRow 15 = .ok (.getfield 18, 3) := by decide +kernel
theorem d_Q_setRow_18 : decode b_Q_setRow 18 = .ok (.iload_n 1, 1) := by decide +kernel
theorem d_Q_setRow_19 : decode b_Q_setRow 19 = .ok (.iload 4, 2) := by decide +kernel
theorem d_Q_setRow_21 : decode b_Q_setRow 21 = .ok (.iastore, 1) := by decide +kernel
theorem d_Q_setRow_22 : decode b_Q_setRow 22 = .ok (.return_, 1) := by decide +kernel
theorem d_P_init_0 : decode b_P_init 0 = .ok (.aload_n 0, 1) := by decide +kernel
theorem d_P_init_1 : decode b_P_init 1 = .ok (.invokespecial 3, 3) := by decide +kernel
theorem d_P_init_4 : decode b_P_init 4 = .ok (.aload_n 0, 1) := by decide +kernel
theorem d_P_init_5 : decode b_P_init 5 = .ok (.iconst 1, 1) := by decide +kernel
theorem d_P_init_6 : decode b_P_init 6 = .ok (.putfield 9, 3) := by decide +kernel
theorem d_P_init_9 : decode b_P_init 9 = .ok (.aload_n 0, 1) := by decide +kernel
theorem d_P_init_10 : decode b_P_init 10 = .ok (.bipush 8, 2) := by decide +kernel
theorem d_P_init_12 : decode b_P_init 12 = .ok (.newarray .int, 2) := by decide +kernel
theorem d_P_init_14 : decode b_P_init 14 = .ok (.putfield 15, 3) := by decide +kernel
theorem d_P_init_17 : decode b_P_init 17 = .ok (.aload_n 0, 1) := by decide +kernel
theorem d_P_init_18 : decode b_P_init 18 = .ok (.getfield 15, 3) := by decide +kernel
theorem d_P_init_21 : decode b_P_init 21 = .ok (.iconst (-1), 1) := by decide +kernel
theorem d_P_init_22 : decode b_P_init 22 = .ok (.invokestatic 19, 3) := by decide +kernel
theorem d_P_init_25 : decode b_P_init 25 = .ok (.aload_n 0, 1) := by decide +kernel
theorem d_P_init_26 : decode b_P_init 26 = .ok (.iconst 4, 1) := by decide +kernel
theorem d_P_init_27 : decode b_P_init 27 = .ok (.newarray .int, 2) := by decide +kernel
theorem d_P_init_29 : decode b_P_init 29 = .ok (.putfield 25, 3) := by decide +kernel
theorem d_P_init_32 : decode b_P_init 32 = .ok (.aload_n 0, 1) := by decide +kernel
theorem d_P_init_33 : decode b_P_init 33 = .ok (.iconst 4, 1) := by decide +kernel
theorem d_P_init_34 : decode b_P_init 34 = .ok (.newarray .int, 2) := by decide +kernel
theorem d_P_init_36 : decode b_P_init 36 = .ok (.putfield 28, 3) := by decide +kernel
theorem d_P_init_39 : decode b_P_init 39 = .ok (.aload_n 0, 1) := by decide +kernel
theorem d_P_init_40 : decode b_P_init 40 = .ok (.iconst 4, 1) := by decide +kernel
theorem d_P_init_41 : decode b_P_init 41 = .ok (.newarray .int, 2) := by decide +kernel
theorem d_P_init_43 : decode b_P_init 43 = .ok (.putfield 31, 3) := by decide +kernel
theorem d_P_init_46 : decode b_P_init 46 = .ok (.aload_n 0, 1) := by decide +kernel
theorem d_P_init_47 : decode b_P_init 47 = .ok (.iconst 4, 1) := by decide +kernel
theorem d_P_init_48 : decode b_P_init 48 = .ok (.newarray .int, 2) := by decide +kernel
theorem d_P_init_50 : decode b_P_init 50 = .ok (.putfield 34, 3) := by decide +kernel
theorem d_P_init_53 : decode b_P_init 53 = .ok (.aload_n 0, 1) := by decide +kernel
theorem d_P_init_54 : decode b_P_init 54 = .ok (.bipush 24, 2) := by decide +kernel
theorem d_P_init_56 : decode b_P_init 56 = .ok (.newarray .int, 2) := by decide +kernel
theorem d_P_init_58 : decode b_P_init 58 = .ok (.putfield 37, 3) := by decide +kernel
theorem d_P_init_61 : decode b_P_init 61 = .ok (.return_, 1) := by decide +kernel
theorem d_P_beginAnew_0 : decode b_P_beginAnew 0 = .ok (.aload_n 0, 1) := by decide +kernel
theorem d_P_beginAnew_1 : decode b_P_beginAnew 1 = .ok (.iload_n 1, 1) := by decide +kernel
theorem d_P_beginAnew_2 : decode b_P_beginAnew 2 = .ok (.putfield 40, 3) := by decide +kernel
theorem d_P_beginAnew_5 : decode b_P_beginAnew 5 = .ok (.aload_n 0, 1) := by decide +kernel
theorem d_P_beginAnew_6 : decode b_P_beginAnew 6 = .ok (.iload_n 2, 1) := by decide +kernel
theorem d_P_beginAnew_7 : decode b_P_beginAnew 7 = .ok (.putfield 9, 3) := by decide +kernel
theorem d_P_beginAnew_10 : decode b_P_beginAnew 10 = .ok (.aload_n 0, 1) := by decide +kernel
theorem d_P_beginAnew_11 : decode b_P_beginAnew 11 = .ok (.iload_n 3, 1) := by decide +kernel
theorem d_P_beginAnew_12 : decode b_P_beginAnew 12 = .ok (.putfield 43, 3) := by decide +kernel
theorem d_P_beginAnew_15 : decode b_P_beginAnew 15 = .ok (.aload_n 0, 1) := by decide +kernel
theorem d_P_beginAnew_16 : decode b_P_beginAnew 16 = .ok (.iconst 0, 1) := by decide +kernel
theorem d_P_beginAnew_17 : decode b_P_beginAnew 17 = .ok (.putfield 46, 3) := by decide +kernel
theorem d_P_beginAnew_20 : decode b_P_beginAnew 20 = .ok (.aload_n 0, 1) := by decide +kernel
theorem d_P_beginAnew_21 : decode b_P_beginAnew 21 = .ok (.iconst 0, 1) := by decide +kernel
theorem d_P_beginAnew_22 : decode b_P_beginAnew 22 = .ok (.putfield 49, 3) := by decide +kernel
theorem d_P_beginAnew_25 : decode b_P_beginAnew 25 = .ok (.aload_n 0, 1) := by decide +kernel
theorem d_P_beginAnew_26 : decode b_P_beginAnew 26 = .ok (.getfield 15, 3) := by decide +kernel
theorem d_P_beginAnew_29 : decode b_P_beginAnew 29 = .ok (.iconst (-1), 1) := by decide +kernel
theorem d_P_beginAnew_30 : decode b_P_beginAnew 30 = .ok (.invokestatic 19, 3) := by decide +kernel
theorem d_P_beginAnew_33 : decode b_P_beginAnew 33 = .ok (.aload_n 0, 1) := by decide +kernel
theorem d_P_beginAnew_34 : decode b_P_beginAnew 34 = .ok (.iconst 0, 1) := by decide +kernel
theorem d_P_beginAnew_35 : decode b_P_beginAnew 35 = .ok (.putfield 52, 3) := by decide +kernel
theorem d_P_beginAnew_38 : decode b_P_beginAnew 38 = .ok (.aload_n 0, 1) := by decide +kernel
theorem d_P_beginAnew_39 : decode b_P_beginAnew 39 = .ok (.iconst 0, 1) := by decide +kernel
theorem d_P_beginAnew_40 : decode b_P_beginAnew 40 = .ok (.putfield 55, 3) := by decide +kernel
theorem d_P_beginAnew_43 : decode b_P_beginAnew 43 = .ok (.return_, 1) := by decide +kernel
theorem d_P_copyFrom_0 : decode b_P_copyFrom 0 = .ok (.aload_n 0, 1) := by decide +kernel
theorem d_P_copyFrom_1 : decode b_P_copyFrom 1 = .ok (.aload_n 1, 1) := by decide +kernel
theorem d_P_copyFrom_2 : decode b_P_copyFrom 2 = .ok (.getfield 40, 3) := by decide +kernel
theorem d_P_copyFrom_5 : decode b_P_copyFrom 5 = .ok (.aload_n 1, 1) := by decide +kernel
theorem d_P_copyFrom_6 : decode b_P_copyFrom 6 = .ok (.getfield 9, 3) := by decide +kernel
theorem d_P_copyFrom_9 : decode b_P_copyFrom 9 = .ok (.aload_n 1, 1) := by decide +kernel
theorem d_P_copyFrom_10 : decode b_P_copyFrom 10 = .ok (.getfield 43, 3) := by decide +kernel
theorem d_P_copyFrom_13 : decode b_P_copyFrom 13 = .ok (.invokevirtual 58, 3) := by decide +kernel
theorem d_P_copyFrom_16 : decode b_P_copyFrom 16 = .ok (.aload_n 0, 1) := by decide +kernel
theorem d_P_copyFrom_17 : decode b_P_copyFrom 17 = .ok (.aload_n 1, 1) := by decide +kernel
theorem d_P_copyFrom_18 : decode b_P_copyFrom 18 = .ok (.getfield 46, 3) := by decide +kernel
theorem d_P_copyFrom_21 : decode b_P_copyFrom 21 = .ok (.putfield 46, 3) := by decide +kernel
theorem d_P_copyFrom_24 : decode b_P_copyFrom 24 = .ok (.aload_n 0, 1) := by decide +kernel
theorem d_P_copyFrom_25 : decode b_P_copyFrom 25 = .ok (.aload_n 1, 1) := by decide +kernel
theorem d_P_copyFrom_26 : decode b_P_copyFrom 26 = .ok (.getfield 49, 3) := by decide +kernel
theorem d_P_copyFrom_29 : decode b_P_copyFrom 29 = .ok (.putfield 49, 3) := by decide +kernel
theorem d_P_copyFrom_32 : decode b_P_copyFrom 32 = .ok (.aload_n 1, 1) := by decide +kernel
theorem d_P_copyFrom_33 : decode b_P_copyFrom 33 = .ok (.getfield 15, 3) := by decide +kernel
theorem d_P_copyFrom_36 : decode b_P_copyFrom 36 = .ok (.iconst 0, 1) := by decide +kernel
theorem d_P_copyFrom_37 : decode b_P_copyFrom 37 = .ok (.aload_n 0, 1) := by decide +kernel
theorem d_P_copyFrom_38 : decode b_P_copyFrom 38 = .ok (.getfield 15, 3) := by decide +kernel
theorem d_P_copyFrom_41 : decode b_P_copyFrom 41 = .ok (.iconst 0, 1) := by decide +kernel
theorem d_P_copyFrom_42 : decode b_P_copyFrom 42 = .ok (.bipush 8, 2) := by decide +kernel
theorem d_P_copyFrom_44 : decode b_P_copyFrom 44 = .ok (.invokestatic 62, 3) := by decide +kernel
theorem d_P_copyFrom_47 : decode b_P_copyFrom 47 = .ok (.aload_n 0, 1) := by decide +kernel
theorem d_P_copyFrom_48 : decode b_P_copyFrom 48 = .ok (.aload_n 1, 1) := by decide +kernel
theorem d_P_copyFrom_49 : decode b_P_copyFrom 49 = .ok (.getfield 52, 3) := by decide +kernel
theorem d_P_copyFrom_52 : decode b_P_copyFrom 52 = .ok (.putfield 52, 3) := by decide +kernel
theorem d_P_copyFrom_55 : decode b_P_copyFrom 55 = .ok (.aload_n 1, 1) := by decide +kernel
theorem d_P_copyFrom_56 : decode b_P_copyFrom 56 = .ok (.getfield 25, 3) := by decide +kernel
theorem d_P_copyFrom_59 : decode b_P_copyFrom 59 = .ok (.iconst 0, 1) := by decide +kernel
theorem d_P_copyFrom_60 : decode b_P_copyFrom 60 = .ok (.aload_n 0, 1) := by decide +kernel
theorem d_P_copyFrom_61 : decode b_P_copyFrom 61 = .ok (.getfield 25, 3) := by decide +kernel
theorem d_P_copyFrom_64 : decode b_P_copyFrom 64 = .ok (.iconst 0, 1) := by decide +kernel
theorem d_P_copyFrom_65 : decode b_P_copyFrom 65 = .ok (.iconst 4, 1) := by decide +kernel
theorem d_P_copyFrom_66 : decode b_P_copyFrom 66 = .ok (.invokestatic 62, 3) := by decide +kernel
theorem d_P_copyFrom_69 : decode b_P_copyFrom 69 = .ok (.aload_n 1, 1) := by decide +kernel
theorem d_P_copyFrom_70 : decode b_P_copyFrom 70 = .ok (.getfield 28, 3) := by decide +kernel
theorem d_P_copyFrom_73 : decode b_P_copyFrom 73 = .ok (.iconst 0, 1) := by decide +kernel
theorem d_P_copyFrom_74 : decode b_P_copyFrom 74 = .ok (.aload_n 0, 1) := by decide +kernel
theorem d_P_copyFrom_75 : decode b_P_copyFrom 75 = .ok (.getfield 28, 3) := by decide +kernel
theorem d_P_copyFrom_78 : decode b_P_copyFrom 78 = .ok (.iconst 0, 1) := by decide +kernel
theorem d_P_copyFrom_79 : decode b_P_copyFrom 79 = .ok (.iconst 4, 1) := by decide +kernel
theorem d_P_copyFrom_80 : decode b_P_copyFrom 80 = .ok (.invokestatic 62, 3) := by decide +kernel
theorem d_P_copyFrom_83 : decode b_P_copyFrom 83 = .ok (.aload_n 1, 1) := by decide +kernel
theorem d_P_copyFrom_84 : decode b_P_copyFrom 84 = .ok (.getfield 31, 3) := by decide +kernel
theorem d_P_copyFrom_87 : decode b_P_copyFrom 87 = .ok (.iconst 0, 1) := by decide +kernel
theorem d_P_copyFrom_88 : decode b_P_copyFrom 88 = .ok (.aload_n 0, 1) := by decide +kernel
theorem d_P_copyFrom_89 : decode b_P_copyFrom 89 = .ok (.getfield 31, 3) := by decide +kernel
theorem d_P_copyFrom_92 : decode b_P_copyFrom 92 = .ok (.iconst 0, 1) := by decide +kernel
theorem d_P_copyFrom_93 : decode b_P_copyFrom 93 = .ok (.iconst 4, 1) := by decide +kernel
theorem d_P_copyFrom_94 : decode b_P_copyFrom 94 = .ok (.invokestatic 62, 3) := by decide +kernel
theorem d_P_copyFrom_97 : decode b_P_copyFrom 97 = .ok (.aload_n 1, 1) := by decide +kernel
theorem d_P_copyFrom_98 : decode b_P_copyFrom 98 = .ok (.getfield 34, 3) := by decide +kernel
theorem d_P_copyFrom_101 : decode b_P_copyFrom 101 = .ok (.iconst 0, 1) := by decide +kernel
theorem d_P_copyFrom_102 : decode b_P_copyFrom 102 = .ok (.aload_n 0, 1) := by decide +kernel
theorem d_P_copyFrom_103 : decode b_P_copyFrom 103 = .ok (.getfield 34, 3) := by decide +kernel
theorem d_P_copyFrom_106 : decode b_P_copyFrom 106 = .ok (.iconst 0, 1) := by decide +kernel
theorem d_P_copyFrom_107 : decode b_P_copyFrom 107 = .ok (.iconst 4, 1) := by decide +kernel
theorem d_P_copyFrom_108 : decode b_P_copyFrom 108 = .ok (.invokestatic 62, 3) := by decide +kernel
theorem d_P_copyFrom_111 : decode b_P_copyFrom 111 = .ok (.aload_n 0, 1) := by decide +kernel
theorem d_P_copyFrom_112 : decode b_P_copyFrom 112 = .ok (.aload_n 1, 1) := by decide +kernel
theorem d_P_copyFrom_113 : decode b_P_copyFrom 113 = .ok (.getfield 55, 3) := by decide +kernel
theorem d_P_copyFrom_116 : decode b_P_copyFrom 116 = .ok (.putfield 55, 3) := by decide +kernel
theorem d_P_copyFrom_119 : decode b_P_copyFrom 119 = .ok (.aload_n 1, 1) := by decide +kernel
theorem d_P_copyFrom_120 : decode b_P_copyFrom 120 = .ok (.getfield 37, 3) := by decide +kernel
theorem d_P_copyFrom_123 : decode b_P_copyFrom 123 = .ok (.iconst 0, 1) := by decide +kernel
theorem d_P_copyFrom_124 : decode b_P_copyFrom 124 = .ok (.aload_n 0, 1) := by decide +kernel
theorem d_P_copyFrom_125 : decode b_P_copyFrom 125 = .ok (.getfield 37, 3) := by decide +kernel
theorem d_P_copyFrom_128 : decode b_P_copyFrom 128 = .ok (.iconst 0, 1) := by decide +kernel
theorem d_P_copyFrom_129 : decode b_P_copyFrom 129 = .ok (.bipush 24, 2) := by decide +kernel
theorem d_P_copyFrom_131 : decode b_P_copyFrom 131 = .ok (.invokestatic 62, 3) := by decide +kernel
theorem d_P_copyFrom_134 : decode b_P_copyFrom 134 = .ok (.return_, 1) := by decide +kernel
theorem d_P_addWord_0 : decode b_P_addWord 0 = .ok (.aload_n 0, 1) := by decide +kernel
theorem d_P_addWord_1 : decode b_P_addWord 1 = .ok (.getfield 55, 3) := by decide +kernel
theorem d_P_addWord_4 : decode b_P_addWord 4 = .ok (.bipush 24, 2) := by decide +kernel
theorem d_P_addWord_6 : decode b_P_addWord 6 = .ok (.if_icmp .lt 5, 3) := by decide +kernel
theorem d_P_addWord_9 : decode b_P_addWord 9 = .ok (.iconst 0, 1) := by decide +kernel
theorem d_P_addWord_10 : decode b_P_addWord 10 = .ok (.ireturn, 1) := by decide +kernel
theorem d_P_addWord_11 : decode b_P_addWord 11 = .ok (.aload_n 0, 1) := by decide +kernel
theorem d_P_addWord_12 : decode b_P_addWord 12 = .ok (.getfield 37, 3) := by decide +kernel
theorem d_P_addWord_15 : decode b_P_addWord 15 = .ok (.aload_n 0, 1) := by decide +kernel
theorem d_P_addWord_16 : decode b_P_addWord 16 = .ok (.getfield 55, 3) := by decide +kernel
theorem d_P_addWord_19 : decode b_P_addWord 19 = .ok (.iload_n 1, 1) := by decide +kernel
theorem d_P_addWord_20 : decode b_P_addWord 20 = .ok (.iastore, 1) := by decide +kernel
theorem d_P_addWord_21 : decode b_P_addWord 21 = .ok (.aload_n 0, 1) := by decide +kernel
theorem d_P_addWord_22 : decode b_P_addWord 22 = .ok (.dup, 1) := by decide +kernel
theorem d_P_addWord_23 : decode b_P_addWord 23 = .ok (.getfield 55, 3) := by decide +kernel
theorem d_P_addWord_26 : decode b_P_addWord 26 = .ok (.iconst 1, 1) := by decide +kernel
theorem d_P_addWord_27 : decode b_P_addWord 27 = .ok (.iadd, 1) := by decide +kernel
theorem d_P_addWord_28 : decode b_P_addWord 28 = .ok (.putfield 55, 3) := by decide +kernel
theorem d_P_addWord_31 : decode b_P_addWord 31 = .ok (.iconst 1, 1) := by decide +kernel
theorem d_P_addWord_32 : decode b_P_addWord 32 = .ok (.ireturn, 1) := by decide +kernel
theorem d_P_addPart_0 : decode b_P_addPart 0 = .ok (.aload_n 0, 1) := by decide +kernel
theorem d_P_addPart_1 : decode b_P_addPart 1 = .ok (.getfield 52, 3) := by decide +kernel
theorem d_P_addPart_4 : decode b_P_addPart 4 = .ok (.iconst 4, 1) := by decide +kernel
theorem d_P_addPart_5 : decode b_P_addPart 5 = .ok (.if_icmp .lt 5, 3) := by decide +kernel
theorem d_P_addPart_8 : decode b_P_addPart 8 = .ok (.iconst 0, 1) := by decide +kernel
theorem d_P_addPart_9 : decode b_P_addPart 9 = .ok (.ireturn, 1) := by decide +kernel
theorem d_P_addPart_10 : decode b_P_addPart 10 = .ok (.aload_n 0, 1) := by decide +kernel
theorem d_P_addPart_11 : decode b_P_addPart 11 = .ok (.getfield 25, 3) := by decide +kernel
theorem d_P_addPart_14 : decode b_P_addPart 14 = .ok (.aload_n 0, 1) := by decide +kernel
theorem d_P_addPart_15 : decode b_P_addPart 15 = .ok (.getfield 52, 3) := by decide +kernel
theorem d_P_addPart_18 : decode b_P_addPart 18 = .ok (.iload_n 1, 1) := by decide +kernel
theorem d_P_addPart_19 : decode b_P_addPart 19 = .ok (.iastore, 1) := by decide +kernel
theorem d_P_addPart_20 : decode b_P_addPart 20 = .ok (.aload_n 0, 1) := by decide +kernel
theorem d_P_addPart_21 : decode b_P_addPart 21 = .ok (.getfield 28, 3) := by decide +kernel
theorem d_P_addPart_24 : decode b_P_addPart 24 = .ok (.aload_n 0, 1) := by decide +kernel
theorem d_P_addPart_25 : decode b_P_addPart 25 = .ok (.getfield 52, 3) := by decide +kernel
theorem d_P_addPart_28 : decode b_P_addPart 28 = .ok (.iload_n 2, 1) := by decide +kernel
theorem d_P_addPart_29 : decode b_P_addPart 29 = .ok (.ifCond .eq 7, 3) := by decide +kernel
theorem d_P_addPart_32 : decode b_P_addPart 32 = .ok (.iconst 1, 1) := by decide +kernel
theorem d_P_addPart_33 : decode b_P_addPart 33 = .ok (.goto 4, 3) := by decide +kernel
theorem d_P_addPart_36 : decode b_P_addPart 36 = .ok (.iconst 0, 1) := by decide +kernel
theorem d_P_addPart_37 : decode b_P_addPart 37 = .ok (.iastore, 1) := by decide +kernel
theorem d_P_addPart_38 : decode b_P_addPart 38 = .ok (.aload_n 0, 1) := by decide +kernel
theorem d_P_addPart_39 : decode b_P_addPart 39 = .ok (.getfield 31, 3) := by decide +kernel
theorem d_P_addPart_42 : decode b_P_addPart 42 = .ok (.aload_n 0, 1) := by decide +kernel
theorem d_P_addPart_43 : decode b_P_addPart 43 = .ok (.getfield 52, 3) := by decide +kernel
theorem d_P_addPart_46 : decode b_P_addPart 46 = .ok (.iload_n 3, 1) := by decide +kernel
theorem d_P_addPart_47 : decode b_P_addPart 47 = .ok (.iastore, 1) := by decide +kernel
theorem d_P_addPart_48 : decode b_P_addPart 48 = .ok (.aload_n 0, 1) := by decide +kernel
theorem d_P_addPart_49 : decode b_P_addPart 49 = .ok (.getfield 34, 3) := by decide +kernel
theorem d_P_addPart_52 : decode b_P_addPart 52 = .ok (.aload_n 0, 1) := by decide +kernel
theorem d_P_addPart_53 : decode b_P_addPart 53 = .ok (.getfield 52, 3) := by decide +kernel
theorem d_P_addPart_56 : decode b_P_addPart 56 = .ok (.iload 4, 2) := by decide +kernel
theorem d_P_addPart_58 : decode b_P_addPart 58 = .ok (.iastore, 1) := by decide +kernel
theorem d_P_addPart_59 : decode b_P_addPart 59 = .ok (.aload_n 0, 1) := by decide +kernel
theorem d_P_addPart_60 : decode b_P_addPart 60 = .ok (.dup, 1) := by decide +kernel
theorem d_P_addPart_61 : decode b_P_addPart 61 = .ok (.getfield 52, 3) := by decide +kernel
theorem d_P_addPart_64 : decode b_P_addPart 64 = .ok (.iconst 1, 1) := by decide +kernel
theorem d_P_addPart_65 : decode b_P_addPart 65 = .ok (.iadd, 1) := by decide +kernel
theorem d_P_addPart_66 : decode b_P_addPart 66 = .ok (.putfield 52, 3) := by decide +kernel
theorem d_P_addPart_69 : decode b_P_addPart 69 = .ok (.iconst 1, 1) := by decide +kernel
theorem d_P_addPart_70 : decode b_P_addPart 70 = .ok (.ireturn, 1) := by decide +kernel
theorem d_P_asksFor_0 : decode b_P_asksFor 0 = .ok (.aload_n 0, 1) := by decide +kernel
theorem d_P_asksFor_1 : decode b_P_asksFor 1 = .ok (.getfield 49, 3) := by decide +kernel
theorem d_P_asksFor_4 : decode b_P_asksFor 4 = .ok (.iload_n 1, 1) := by decide +kernel
theorem d_P_asksFor_5 : decode b_P_asksFor 5 = .ok (.bipush 8, 2) := by decide +kernel
theorem d_P_asksFor_7 : decode b_P_asksFor 7 = .ok (.invokestatic 68, 3) := by decide +kernel
theorem d_P_asksFor_10 : decode b_P_asksFor 10 = .ok (.ireturn, 1) := by decide +kernel
theorem d_P_declares_0 : decode b_P_declares 0 = .ok (.iload_n 1, 1) := by decide +kernel
theorem d_P_declares_1 : decode b_P_declares 1 = .ok (.bipush 8, 2) := by decide +kernel
theorem d_P_declares_3 : decode b_P_declares 3 = .ok (.invokestatic 72, 3) := by decide +kernel
theorem d_P_declares_6 : decode b_P_declares 6 = .ok (.ifCond .eq 17, 3) := by decide +kernel
theorem d_P_declares_9 : decode b_P_declares 9 = .ok (.aload_n 0, 1) := by decide +kernel
theorem d_P_declares_10 : decode b_P_declares 10 = .ok (.getfield 15, 3) := by decide +kernel
theorem d_P_declares_13 : decode b_P_declares 13 = .ok (.iload_n 1, 1) := by decide +kernel
theorem d_P_declares_14 : decode b_P_declares 14 = .ok (.iaload, 1) := by decide +kernel
theorem d_P_declares_15 : decode b_P_declares 15 = .ok (.iconst (-1), 1) := by decide +kernel
theorem d_P_declares_16 : decode b_P_declares 16 = .ok (.if_icmp .eq 7, 3) := by decide +kernel
theorem d_P_declares_19 : decode b_P_declares 19 = .ok (.iconst 1, 1) := by decide +kernel
theorem d_P_declares_20 : decode b_P_declares 20 = .ok (.goto 4, 3) := by decide +kernel
theorem d_P_declares_23 : decode b_P_declares 23 = .ok (.iconst 0, 1) := by decide +kernel
theorem d_P_declares_24 : decode b_P_declares 24 = .ok (.ireturn, 1) := by decide +kernel
theorem d_P_sealOfSigner_0 : decode b_P_sealOfSigner 0 = .ok (.aload_n 0, 1) := by decide +kernel
theorem d_P_sealOfSigner_1 : decode b_P_sealOfSigner 1 = .ok (.invokevirtual 76, 3) := by decide +kernel
theorem d_P_sealOfSigner_4 : decode b_P_sealOfSigner 4 = .ok (.ldc 80, 2) := by decide +kernel
theorem d_P_sealOfSigner_6 : decode b_P_sealOfSigner 6 = .ok (.aload_n 0, 1) := by decide +kernel
theorem d_P_sealOfSigner_7 : decode b_P_sealOfSigner 7 = .ok (.getfield 43, 3) := by decide +kernel
theorem d_P_sealOfSigner_10 : decode b_P_sealOfSigner 10 = .ok (.iconst 1, 1) := by decide +kernel
theorem d_P_sealOfSigner_11 : decode b_P_sealOfSigner 11 = .ok (.iadd, 1) := by decide +kernel
theorem d_P_sealOfSigner_12 : decode b_P_sealOfSigner 12 = .ok (.imul, 1) := by decide +kernel
theorem d_P_sealOfSigner_13 : decode b_P_sealOfSigner 13 = .ok (.ixor, 1) := by decide +kernel
theorem d_P_sealOfSigner_14 : decode b_P_sealOfSigner 14 = .ok (.ireturn, 1) := by decide +kernel
theorem d_P_digest_0 : decode b_P_digest 0 = .ok (.bipush 17, 2) := by decide +kernel
theorem d_P_digest_2 : decode b_P_digest 2 = .ok (.aload_n 0, 1) := by decide +kernel
theorem d_P_digest_3 : decode b_P_digest 3 = .ok (.getfield 40, 3) := by decide +kernel
theorem d_P_digest_6 : decode b_P_digest 6 = .ok (.invokestatic 81, 3) := by decide +kernel
theorem d_P_digest_9 : decode b_P_digest 9 = .ok (.aload_n 0, 1) := by decide +kernel
theorem d_P_digest_10 : decode b_P_digest 10 = .ok (.getfield 9, 3) := by decide +kernel
theorem d_P_digest_13 : decode b_P_digest 13 = .ok (.invokestatic 81, 3) := by decide +kernel
theorem d_P_digest_16 : decode b_P_digest 16 = .ok (.aload_n 0, 1) := by decide +kernel
theorem d_P_digest_17 : decode b_P_digest 17 = .ok (.getfield 49, 3) := by decide +kernel
theorem d_P_digest_20 : decode b_P_digest 20 = .ok (.invokestatic 81, 3) := by decide +kernel
theorem d_P_digest_23 : decode b_P_digest 23 = .ok (.istore_n 1, 1) := by decide +kernel
theorem d_P_digest_24 : decode b_P_digest 24 = .ok (.iconst 0, 1) := by decide +kernel
theorem d_P_digest_25 : decode b_P_digest 25 = .ok (.istore_n 2, 1) := by decide +kernel
theorem d_P_digest_26 : decode b_P_digest 26 = .ok (.iload_n 2, 1) := by decide +kernel
theorem d_P_digest_27 : decode b_P_digest 27 = .ok (.bipush 8, 2) := by decide +kernel
theorem d_P_digest_29 : decode b_P_digest 29 = .ok (.if_icmp .ge 33, 3) := by decide +kernel
theorem d_P_digest_32 : decode b_P_digest 32 = .ok (.aload_n 0, 1) := by decide +kernel
theorem d_P_digest_33 : decode b_P_digest 33 = .ok (.iload_n 2, 1) := by decide +kernel
theorem d_P_digest_34 : decode b_P_digest 34 = .ok (.invokevirtual 85, 3) := by decide +kernel
theorem d_P_digest_37 : decode b_P_digest 37 = .ok (.ifCond .eq 19, 3) := by decide +kernel
theorem d_P_digest_40 : decode b_P_digest 40 = .ok (.iload_n 1, 1) := by decide +kernel
theorem d_P_digest_41 : decode b_P_digest 41 = .ok (.bipush 10, 2) := by decide +kernel
theorem d_P_digest_43 : decode b_P_digest 43 = .ok (.iload_n 2, 1) := by decide +kernel
theorem d_P_digest_44 : decode b_P_digest 44 = .ok (.imul, 1) := by decide +kernel
theorem d_P_digest_45 : decode b_P_digest 45 = .ok (.aload_n 0, 1) := by decide +kernel
theorem d_P_digest_46 : decode b_P_digest 46 = .ok (.getfield 15, 3) := by decide +kernel
theorem d_P_digest_49 : decode b_P_digest 49 = .ok (.iload_n 2, 1) := by decide +kernel
theorem d_P_digest_50 : decode b_P_digest 50 = .ok (.iaload, 1) := by decide +kernel
theorem d_P_digest_51 : decode b_P_digest 51 = .ok (.iadd, 1) := by decide +kernel
theorem d_P_digest_52 : decode b_P_digest 52 = .ok (.invokestatic 81, 3) := by decide +kernel
theorem d_P_digest_55 : decode b_P_digest 55 = .ok (.istore_n 1, 1) := by decide +kernel
theorem d_P_digest_56 : decode b_P_digest 56 = .ok (.iinc 2 1, 3) := by decide +kernel
theorem d_P_digest_59 : decode b_P_digest 59 = .ok (.goto (-33), 3) := by decide +kernel
theorem d_P_digest_62 : decode b_P_digest 62 = .ok (.iconst 0, 1) := by decide +kernel
theorem d_P_digest_63 : decode b_P_digest 63 = .ok (.istore_n 2, 1) := by decide +kernel
theorem d_P_digest_64 : decode b_P_digest 64 = .ok (.iload_n 2, 1) := by decide +kernel
theorem d_P_digest_65 : decode b_P_digest 65 = .ok (.aload_n 0, 1) := by decide +kernel
theorem d_P_digest_66 : decode b_P_digest 66 = .ok (.getfield 52, 3) := by decide +kernel
theorem d_P_digest_69 : decode b_P_digest 69 = .ok (.if_icmp .ge 47, 3) := by decide +kernel
theorem d_P_digest_72 : decode b_P_digest 72 = .ok (.iload_n 1, 1) := by decide +kernel
theorem d_P_digest_73 : decode b_P_digest 73 = .ok (.aload_n 0, 1) := by decide +kernel
theorem d_P_digest_74 : decode b_P_digest 74 = .ok (.getfield 25, 3) := by decide +kernel
theorem d_P_digest_77 : decode b_P_digest 77 = .ok (.iload_n 2, 1) := by decide +kernel
theorem d_P_digest_78 : decode b_P_digest 78 = .ok (.iaload, 1) := by decide +kernel
theorem d_P_digest_79 : decode b_P_digest 79 = .ok (.invokestatic 81, 3) := by decide +kernel
theorem d_P_digest_82 : decode b_P_digest 82 = .ok (.aload_n 0, 1) := by decide +kernel
theorem d_P_digest_83 : decode b_P_digest 83 = .ok (.getfield 28, 3) := by decide +kernel
theorem d_P_digest_86 : decode b_P_digest 86 = .ok (.iload_n 2, 1) := by decide +kernel
theorem d_P_digest_87 : decode b_P_digest 87 = .ok (.iaload, 1) := by decide +kernel
theorem d_P_digest_88 : decode b_P_digest 88 = .ok (.invokestatic 81, 3) := by decide +kernel
theorem d_P_digest_91 : decode b_P_digest 91 = .ok (.aload_n 0, 1) := by decide +kernel
theorem d_P_digest_92 : decode b_P_digest 92 = .ok (.getfield 31, 3) := by decide +kernel
theorem d_P_digest_95 : decode b_P_digest 95 = .ok (.iload_n 2, 1) := by decide +kernel
theorem d_P_digest_96 : decode b_P_digest 96 = .ok (.iaload, 1) := by decide +kernel
theorem d_P_digest_97 : decode b_P_digest 97 = .ok (.invokestatic 81, 3) := by decide +kernel
theorem d_P_digest_100 : decode b_P_digest 100 = .ok (.aload_n 0, 1) := by decide +kernel
theorem d_P_digest_101 : decode b_P_digest 101 = .ok (.getfield 34, 3) := by decide +kernel
theorem d_P_digest_104 : decode b_P_digest 104 = .ok (.iload_n 2, 1) := by decide +kernel
theorem d_P_digest_105 : decode b_P_digest 105 = .ok (.iaload, 1) := by decide +kernel
theorem d_P_digest_106 : decode b_P_digest 106 = .ok (.invokestatic 81, 3) := by decide +kernel
theorem d_P_digest_109 : decode b_P_digest 109 = .ok (.istore_n 1, 1) := by decide +kernel
theorem d_P_digest_110 : decode b_P_digest 110 = .ok (.iinc 2 1, 3) := by decide +kernel
theorem d_P_digest_113 : decode b_P_digest 113 = .ok (.goto (-49), 3) := by decide +kernel
theorem d_P_digest_116 : decode b_P_digest 116 = .ok (.iconst 0, 1) := by decide +kernel
theorem d_P_digest_117 : decode b_P_digest 117 = .ok (.istore_n 2, 1) := by decide +kernel
theorem d_P_digest_118 : decode b_P_digest 118 = .ok (.iload_n 2, 1) := by decide +kernel
theorem d_P_digest_119 : decode b_P_digest 119 = .ok (.aload_n 0, 1) := by decide +kernel
theorem d_P_digest_120 : decode b_P_digest 120 = .ok (.getfield 55, 3) := by decide +kernel
theorem d_P_digest_123 : decode b_P_digest 123 = .ok (.if_icmp .ge 20, 3) := by decide +kernel
theorem d_P_digest_126 : decode b_P_digest 126 = .ok (.iload_n 1, 1) := by decide +kernel
theorem d_P_digest_127 : decode b_P_digest 127 = .ok (.aload_n 0, 1) := by decide +kernel
theorem d_P_digest_128 : decode b_P_digest 128 = .ok (.getfield 37, 3) := by decide +kernel
theorem d_P_digest_131 : decode b_P_digest 131 = .ok (.iload_n 2, 1) := by decide +kernel
theorem d_P_digest_132 : decode b_P_digest 132 = .ok (.iaload, 1) := by decide +kernel
theorem d_P_digest_133 : decode b_P_digest 133 = .ok (.invokestatic 81, 3) := by decide +kernel
theorem d_P_digest_136 : decode b_P_digest 136 = .ok (.istore_n 1, 1) := by decide +kernel
theorem d_P_digest_137 : decode b_P_digest 137 = .ok (.iinc 2 1, 3) := by decide +kernel
theorem d_P_digest_140 : decode b_P_digest 140 = .ok (.goto (-22), 3) := by decide +kernel
theorem d_P_digest_143 : decode b_P_digest 143 = .ok (.iload_n 1, 1) := by decide +kernel
theorem d_P_digest_144 : decode b_P_digest 144 = .ok (.ireturn, 1) := by decide +kernel
theorem d_P_mix_0 : decode b_P_mix 0 = .ok (.iload_n 0, 1) := by decide +kernel
theorem d_P_mix_1 : decode b_P_mix 1 = .ok (.bipush 31, 2) := by decide +kernel
theorem d_P_mix_3 : decode b_P_mix 3 = .ok (.imul, 1) := by decide +kernel
theorem d_P_mix_4 : decode b_P_mix 4 = .ok (.iload_n 1, 1) := by decide +kernel
theorem d_P_mix_5 : decode b_P_mix 5 = .ok (.iadd, 1) := by decide +kernel
theorem d_P_mix_6 : decode b_P_mix 6 = .ok (.istore_n 2, 1) := by decide +kernel
theorem d_P_mix_7 : decode b_P_mix 7 = .ok (.iload_n 2, 1) := by decide +kernel
theorem d_P_mix_8 : decode b_P_mix 8 = .ok (.iload_n 2, 1) := by decide +kernel
theorem d_P_mix_9 : decode b_P_mix 9 = .ok (.bipush 13, 2) := by decide +kernel
theorem d_P_mix_11 : decode b_P_mix 11 = .ok (.iushr, 1) := by decide +kernel
theorem d_P_mix_12 : decode b_P_mix 12 = .ok (.ixor, 1) := by decide +kernel
theorem d_P_mix_13 : decode b_P_mix 13 = .ok (.ireturn, 1) := by decide +kernel
theorem d_V_init_0 : decode b_V_init 0 = .ok (.aload_n 0, 1) := by decide +kernel
theorem d_V_init_1 : decode b_V_init 1 = .ok (.invokespecial 3, 3) := by decide +kernel
theorem d_V_init_4 : decode b_V_init 4 = .ok (.aload_n 0, 1) := by decide +kernel
theorem d_V_init_5 : decode b_V_init 5 = .ok (.bipush 24, 2) := by decide +kernel
theorem d_V_init_7 : decode b_V_init 7 = .ok (.newarray .int, 2) := by decide +kernel
theorem d_V_init_9 : decode b_V_init 9 = .ok (.putfield 9, 3) := by decide +kernel
theorem d_V_init_12 : decode b_V_init 12 = .ok (.aload_n 0, 1) := by decide +kernel
theorem d_V_init_13 : decode b_V_init 13 = .ok (.bipush 24, 2) := by decide +kernel
theorem d_V_init_15 : decode b_V_init 15 = .ok (.newarray .int, 2) := by decide +kernel
theorem d_V_init_17 : decode b_V_init 17 = .ok (.putfield 15, 3) := by decide +kernel
theorem d_V_init_20 : decode b_V_init 20 = .ok (.return_, 1) := by decide +kernel
theorem d_V_isGood_0 : decode b_V_isGood 0 = .ok (.aload_n 0, 1) := by decide +kernel
theorem d_V_isGood_1 : decode b_V_isGood 1 = .ok (.getfield 9, 3) := by decide +kernel
theorem d_V_isGood_4 : decode b_V_isGood 4 = .ok (.iconst (-1), 1) := by decide +kernel
theorem d_V_isGood_5 : decode b_V_isGood 5 = .ok (.invokestatic 18, 3) := by decide +kernel
theorem d_V_isGood_8 : decode b_V_isGood 8 = .ok (.aload_n 0, 1) := by decide +kernel
theorem d_V_isGood_9 : decode b_V_isGood 9 = .ok (.iconst 0, 1) := by decide +kernel
theorem d_V_isGood_10 : decode b_V_isGood 10 = .ok (.putfield 24, 3) := by decide +kernel
theorem d_V_isGood_13 : decode b_V_isGood 13 = .ok (.iconst 0, 1) := by decide +kernel
theorem d_V_isGood_14 : decode b_V_isGood 14 = .ok (.istore_n 2, 1) := by decide +kernel
theorem d_V_isGood_15 : decode b_V_isGood 15 = .ok (.iload_n 2, 1) := by decide +kernel
theorem d_V_isGood_16 : decode b_V_isGood 16 = .ok (.aload_n 1, 1) := by decide +kernel
theorem d_V_isGood_17 : decode b_V_isGood 17 = .ok (.getfield 28, 3) := by decide +kernel
theorem d_V_isGood_20 : decode b_V_isGood 20 = .ok (.if_icmp .ge 26, 3) := by decide +kernel
theorem d_V_isGood_23 : decode b_V_isGood 23 = .ok (.aload_n 0, 1) := by decide +kernel
theorem d_V_isGood_24 : decode b_V_isGood 24 = .ok (.aload_n 1, 1) := by decide +kernel
theorem d_V_isGood_25 : decode b_V_isGood 25 = .ok (.aload_n 1, 1) := by decide +kernel
theorem d_V_isGood_26 : decode b_V_isGood 26 = .ok (.getfield 33, 3) := by decide +kernel
theorem d_V_isGood_29 : decode b_V_isGood 29 = .ok (.iload_n 2, 1) := by decide +kernel
theorem d_V_isGood_30 : decode b_V_isGood 30 = .ok (.iaload, 1) := by decide +kernel
theorem d_V_isGood_31 : decode b_V_isGood 31 = .ok (.iconst 0, 1) := by decide +kernel
theorem d_V_isGood_32 : decode b_V_isGood 32 = .ok (.invokevirtual 36, 3) := by decide +kernel
theorem d_V_isGood_35 : decode b_V_isGood 35 = .ok (.ifCond .ne 5, 3) := by decide +kernel
theorem d_V_isGood_38 : decode b_V_isGood 38 = .ok (.iconst 0, 1) := by decide +kernel
theorem d_V_isGood_39 : decode b_V_isGood 39 = .ok (.ireturn, 1) := by decide +kernel
theorem d_V_isGood_40 : decode b_V_isGood 40 = .ok (.iinc 2 1, 3) := by decide +kernel
theorem d_V_isGood_43 : decode b_V_isGood 43 = .ok (.goto (-28), 3) := by decide +kernel
theorem d_V_isGood_46 : decode b_V_isGood 46 = .ok (.iconst 0, 1) := by decide +kernel
theorem d_V_isGood_47 : decode b_V_isGood 47 = .ok (.istore_n 2, 1) := by decide +kernel
theorem d_V_isGood_48 : decode b_V_isGood 48 = .ok (.iload_n 2, 1) := by decide +kernel
theorem d_V_isGood_49 : decode b_V_isGood 49 = .ok (.aload_n 0, 1) := by decide +kernel
theorem d_V_isGood_50 : decode b_V_isGood 50 = .ok (.getfield 24, 3) := by decide +kernel
theorem d_V_isGood_53 : decode b_V_isGood 53 = .ok (.if_icmp .ge 31, 3) := by decide +kernel
theorem d_V_isGood_56 : decode b_V_isGood 56 = .ok (.iload_n 2, 1) := by decide +kernel
theorem d_V_isGood_57 : decode b_V_isGood 57 = .ok (.bipush 24, 2) := by decide +kernel
theorem d_V_isGood_59 : decode b_V_isGood 59 = .ok (.if_icmp .ge 25, 3) := by decide +kernel
theorem d_V_isGood_62 : decode b_V_isGood 62 = .ok (.aload_n 0, 1) := by decide +kernel
theorem d_V_isGood_63 : decode b_V_isGood 63 = .ok (.aload_n 1, 1) := by decide +kernel
theorem d_V_isGood_64 : decode b_V_isGood 64 = .ok (.aload_n 0, 1) := by decide +kernel
theorem d_V_isGood_65 : decode b_V_isGood 65 = .ok (.getfield 15, 3) := by decide +kernel
theorem d_V_isGood_68 : decode b_V_isGood 68 = .ok (.iload_n 2, 1) := by decide +kernel
theorem d_V_isGood_69 : decode b_V_isGood 69 = .ok (.iaload, 1) := by decide +kernel
theorem d_V_isGood_70 : decode b_V_isGood 70 = .ok (.invokevirtual 40, 3) := by decide +kernel
theorem d_V_isGood_73 : decode b_V_isGood 73 = .ok (.ifCond .ne 5, 3) := by decide +kernel
theorem d_V_isGood_76 : decode b_V_isGood 76 = .ok (.iconst 0, 1) := by decide +kernel
theorem d_V_isGood_77 : decode b_V_isGood 77 = .ok (.ireturn, 1) := by decide +kernel
theorem d_V_isGood_78 : decode b_V_isGood 78 = .ok (.iinc 2 1, 3) := by decide +kernel
theorem d_V_isGood_81 : decode b_V_isGood 81 = .ok (.goto (-33), 3) := by decide +kernel
theorem d_V_isGood_84 : decode b_V_isGood 84 = .ok (.iconst 1, 1) := by decide +kernel
theorem d_V_isGood_85 : decode b_V_isGood 85 = .ok (.ireturn, 1) := by decide +kernel
theorem d_V_reach_0 : decode b_V_reach 0 = .ok (.iload_n 2, 1) := by decide +kernel
theorem d_V_reach_1 : decode b_V_reach 1 = .ok (.aload_n 1, 1) := by decide +kernel
theorem d_V_reach_2 : decode b_V_reach 2 = .ok (.getfield 44, 3) := by decide +kernel
theorem d_V_reach_5 : decode b_V_reach 5 = .ok (.invokestatic 47, 3) := by decide +kernel
theorem d_V_reach_8 : decode b_V_reach 8 = .ok (.ifCond .ne 5, 3) := by decide +kernel
theorem d_V_reach_11 : decode b_V_reach 11 = .ok (.iconst 0, 1) := by decide +kernel
theorem d_V_reach_12 : decode b_V_reach 12 = .ok (.ireturn, 1) := by decide +kernel
theorem d_V_reach_13 : decode b_V_reach 13 = .ok (.aload_n 0, 1) := by decide +kernel
theorem d_V_reach_14 : decode b_V_reach 14 = .ok (.getfield 9, 3) := by decide +kernel
theorem d_V_reach_17 : decode b_V_reach 17 = .ok (.iload_n 2, 1) := by decide +kernel
theorem d_V_reach_18 : decode b_V_reach 18 = .ok (.iaload, 1) := by decide +kernel
theorem d_V_reach_19 : decode b_V_reach 19 = .ok (.iconst (-1), 1) := by decide +kernel
theorem d_V_reach_20 : decode b_V_reach 20 = .ok (.if_icmp .ne 39, 3) := by decide +kernel
theorem d_V_reach_23 : decode b_V_reach 23 = .ok (.aload_n 0, 1) := by decide +kernel
theorem d_V_reach_24 : decode b_V_reach 24 = .ok (.getfield 24, 3) := by decide +kernel
theorem d_V_reach_27 : decode b_V_reach 27 = .ok (.bipush 24, 2) := by decide +kernel
theorem d_V_reach_29 : decode b_V_reach 29 = .ok (.if_icmp .ge 30, 3) := by decide +kernel
theorem d_V_reach_32 : decode b_V_reach 32 = .ok (.aload_n 0, 1) := by decide +kernel
theorem d_V_reach_33 : decode b_V_reach 33 = .ok (.getfield 9, 3) := by decide +kernel
theorem d_V_reach_36 : decode b_V_reach 36 = .ok (.iload_n 2, 1) := by decide +kernel
theorem d_V_reach_37 : decode b_V_reach 37 = .ok (.iload_n 3, 1) := by decide +kernel
theorem d_V_reach_38 : decode b_V_reach 38 = .ok (.iastore, 1) := by decide +kernel
theorem d_V_reach_39 : decode b_V_reach 39 = .ok (.aload_n 0, 1) := by decide +kernel
theorem d_V_reach_40 : decode b_V_reach 40 = .ok (.getfield 15, 3) := by decide +kernel
theorem d_V_reach_43 : decode b_V_reach 43 = .ok (.aload_n 0, 1) := by decide +kernel
theorem d_V_reach_44 : decode b_V_reach 44 = .ok (.getfield 24, 3) := by decide +kernel
theorem d_V_reach_47 : decode b_V_reach 47 = .ok (.iload_n 2, 1) := by decide +kernel
theorem d_V_reach_48 : decode b_V_reach 48 = .ok (.iastore, 1) := by decide +kernel
theorem d_V_reach_49 : decode b_V_reach 49 = .ok (.aload_n 0, 1) := by decide +kernel
theorem d_V_reach_50 : decode b_V_reach 50 = .ok (.dup, 1) := by decide +kernel
theorem d_V_reach_51 : decode b_V_reach 51 = .ok (.getfield 24, 3) := by decide +kernel
theorem d_V_reach_54 : decode b_V_reach 54 = .ok (.iconst 1, 1) := by decide +kernel
theorem d_V_reach_55 : decode b_V_reach 55 = .ok (.iadd, 1) := by decide +kernel
theorem d_V_reach_56 : decode b_V_reach 56 = .ok (.putfield 24, 3) := by decide +kernel
theorem d_V_reach_59 : decode b_V_reach 59 = .ok (.aload_n 0, 1) := by decide +kernel
theorem d_V_reach_60 : decode b_V_reach 60 = .ok (.getfield 9, 3) := by decide +kernel
theorem d_V_reach_63 : decode b_V_reach 63 = .ok (.iload_n 2, 1) := by decide +kernel
theorem d_V_reach_64 : decode b_V_reach 64 = .ok (.iaload, 1) := by decide +kernel
theorem d_V_reach_65 : decode b_V_reach 65 = .ok (.iload_n 3, 1) := by decide +kernel
theorem d_V_reach_66 : decode b_V_reach 66 = .ok (.if_icmp .ne 7, 3) := by decide +kernel
theorem d_V_reach_69 : decode b_V_reach 69 = .ok (.iconst 1, 1) := by decide +kernel
theorem d_V_reach_70 : decode b_V_reach 70 = .ok (.goto 4, 3) := by decide +kernel
theorem d_V_reach_73 : decode b_V_reach 73 = .ok (.iconst 0, 1) := by decide +kernel
theorem d_V_reach_74 : decode b_V_reach 74 = .ok (.ireturn, 1) := by decide +kernel
theorem d_V_goesOnWell_0 : decode b_V_goesOnWell 0 = .ok (.aload_n 1, 1) := by decide +kernel
theorem d_V_goesOnWell_1 : decode b_V_goesOnWell 1 = .ok (.getfield 51, 3) := by decide +kernel
theorem d_V_goesOnWell_4 : decode b_V_goesOnWell 4 = .ok (.iload_n 2, 1) := by decide +kernel
theorem d_V_goesOnWell_5 : decode b_V_goesOnWell 5 = .ok (.iaload, 1) := by decide +kernel
theorem d_V_goesOnWell_6 : decode b_V_goesOnWell 6 = .ok (.invokestatic 54, 3) := by decide +kernel
theorem d_V_goesOnWell_9 : decode b_V_goesOnWell 9 = .ok (.istore_n 3, 1) := by decide +kernel
theorem d_V_goesOnWell_10 : decode b_V_goesOnWell 10 = .ok (.aload_n 1, 1) := by decide +kernel
theorem d_V_goesOnWell_11 : decode b_V_goesOnWell 11 = .ok (.getfield 51, 3) := by decide +kernel
theorem d_V_goesOnWell_14 : decode b_V_goesOnWell 14 = .ok (.iload_n 2, 1) := by decide +kernel
theorem d_V_goesOnWell_15 : decode b_V_goesOnWell 15 = .ok (.iaload, 1) := by decide +kernel
theorem d_V_goesOnWell_16 : decode b_V_goesOnWell 16 = .ok (.invokestatic 58, 3) := by decide +kernel
theorem d_V_goesOnWell_19 : decode b_V_goesOnWell 19 = .ok (.istore 4, 2) := by decide +kernel
theorem d_V_goesOnWell_21 : decode b_V_goesOnWell 21 = .ok (.iload_n 3, 1) := by decide +kernel
theorem d_V_goesOnWell_22 : decode b_V_goesOnWell 22 = .ok (.bipush 14, 2) := by decide +kernel
theorem d_V_goesOnWell_24 : decode b_V_goesOnWell 24 = .ok (.if_icmp .ge 26, 3) := by decide +kernel
theorem d_V_goesOnWell_27 : decode b_V_goesOnWell 27 = .ok (.iload_n 3, 1) := by decide +kernel
theorem d_V_goesOnWell_28 : decode b_V_goesOnWell 28 = .ok (.iload 4, 2) := by decide +kernel
theorem d_V_goesOnWell_30 : decode b_V_goesOnWell 30 = .ok (.invokestatic 61, 3) := by decide +kernel
theorem d_V_goesOnWell_33 : decode b_V_goesOnWell 33 = .ok (.ifCond .eq 17, 3) := by decide +kernel
theorem d_V_goesOnWell_36 : decode b_V_goesOnWell 36 = .ok (.aload_n 0, 1) := by decide +kernel
theorem d_V_goesOnWell_37 : decode b_V_goesOnWell 37 = .ok (.getfield 9, 3) := by decide +kernel
theorem d_V_goesOnWell_40 : decode b_V_goesOnWell 40 = .ok (.iload_n 2, 1) := by decide +kernel
theorem d_V_goesOnWell_41 : decode b_V_goesOnWell 41 = .ok (.iaload, 1) := by decide +kernel
theorem d_V_goesOnWell_42 : decode b_V_goesOnWell 42 = .ok (.getstatic 64, 3) := by decide +kernel
theorem d_V_goesOnWell_45 : decode b_V_goesOnWell 45 = .ok (.iload_n 3, 1) := by decide +kernel
theorem d_V_goesOnWell_46 : decode b_V_goesOnWell 46 = .ok (.iaload, 1) := by decide +kernel
theorem d_V_goesOnWell_47 : decode b_V_goesOnWell 47 = .ok (.if_icmp .ge 5, 3) := by decide +kernel
theorem d_V_goesOnWell_50 : decode b_V_goesOnWell 50 = .ok (.iconst 0, 1) := by decide +kernel
theorem d_V_goesOnWell_51 : decode b_V_goesOnWell 51 = .ok (.ireturn, 1) := by decide +kernel
theorem d_V_goesOnWell_52 : decode b_V_goesOnWell 52 = .ok (.aload_n 0, 1) := by decide +kernel
theorem d_V_goesOnWell_53 : decode b_V_goesOnWell 53 = .ok (.getfield 9, 3) := by decide +kernel
theorem d_V_goesOnWell_56 : decode b_V_goesOnWell 56 = .ok (.iload_n 2, 1) := by decide +kernel
theorem d_V_goesOnWell_57 : decode b_V_goesOnWell 57 = .ok (.iaload, 1) := by decide +kernel
theorem d_V_goesOnWell_58 : decode b_V_goesOnWell 58 = .ok (.getstatic 64, 3) := by decide +kernel
theorem d_V_goesOnWell_61 : decode b_V_goesOnWell 61 = .ok (.iload_n 3, 1) := by decide +kernel
theorem d_V_goesOnWell_62 : decode b_V_goesOnWell 62 = .ok (.iaload, 1) := by decide +kernel
theorem d_V_goesOnWell_63 : decode b_V_goesOnWell 63 = .ok (.isub, 1) := by decide +kernel
theorem d_V_goesOnWell_64 : decode b_V_goesOnWell 64 = .ok (.getstatic 67, 3) := by decide +kernel
theorem d_V_goesOnWell_67 : decode b_V_goesOnWell 67 = .ok (.iload_n 3, 1) := by decide +kernel
theorem d_V_goesOnWell_68 : decode b_V_goesOnWell 68 = .ok (.iaload, 1) := by decide +kernel
theorem d_V_goesOnWell_69 : decode b_V_goesOnWell 69 = .ok (.iadd, 1) := by decide +kernel
theorem d_V_goesOnWell_70 : decode b_V_goesOnWell 70 = .ok (.istore 5, 2) := by decide +kernel
theorem d_V_goesOnWell_72 : decode b_V_goesOnWell 72 = .ok (.iload 5, 2) := by decide +kernel
theorem d_V_goesOnWell_74 : decode b_V_goesOnWell 74 = .ok (.bipush 6, 2) := by decide +kernel
theorem d_V_goesOnWell_76 : decode b_V_goesOnWell 76 = .ok (.if_icmp .le 5, 3) := by decide +kernel
theorem d_V_goesOnWell_79 : decode b_V_goesOnWell 79 = .ok (.iconst 0, 1) := by decide +kernel
theorem d_V_goesOnWell_80 : decode b_V_goesOnWell 80 = .ok (.ireturn, 1) := by decide +kernel
theorem d_V_goesOnWell_81 : decode b_V_goesOnWell 81 = .ok (.iload_n 3, 1) := by decide +kernel
theorem d_V_goesOnWell_82 : decode b_V_goesOnWell 82 = .ok (.bipush 8, 2) := by decide +kernel
theorem d_V_goesOnWell_84 : decode b_V_goesOnWell 84 = .ok (.if_icmp .eq 9, 3) := by decide +kernel
theorem d_V_goesOnWell_87 : decode b_V_goesOnWell 87 = .ok (.iload_n 3, 1) := by decide +kernel
theorem d_V_goesOnWell_88 : decode b_V_goesOnWell 88 = .ok (.bipush 9, 2) := by decide +kernel
theorem d_V_goesOnWell_90 : decode b_V_goesOnWell 90 = .ok (.if_icmp .ne 7, 3) := by decide +kernel
theorem d_V_goesOnWell_93 : decode b_V_goesOnWell 93 = .ok (.iconst 1, 1) := by decide +kernel
theorem d_V_goesOnWell_94 : decode b_V_goesOnWell 94 = .ok (.goto 4, 3) := by decide +kernel
theorem d_V_goesOnWell_97 : decode b_V_goesOnWell 97 = .ok (.iconst 0, 1) := by decide +kernel
theorem d_V_goesOnWell_98 : decode b_V_goesOnWell 98 = .ok (.istore 6, 2) := by decide +kernel
theorem d_V_goesOnWell_100 : decode b_V_goesOnWell 100 = .ok (.iload_n 3, 1) := by decide +kernel
theorem d_V_goesOnWell_101 : decode b_V_goesOnWell 101 = .ok (.ifCond .eq 13, 3) := by decide +kernel
theorem d_V_goesOnWell_104 : decode b_V_goesOnWell 104 = .ok (.iload_n 3, 1) := by decide +kernel
theorem d_V_goesOnWell_105 : decode b_V_goesOnWell 105 = .ok (.bipush 8, 2) := by decide +kernel
theorem d_V_goesOnWell_107 : decode b_V_goesOnWell 107 = .ok (.if_icmp .eq 7, 3) := by decide +kernel
theorem d_V_goesOnWell_110 : decode b_V_goesOnWell 110 = .ok (.iconst 1, 1) := by decide +kernel
theorem d_V_goesOnWell_111 : decode b_V_goesOnWell 111 = .ok (.goto 4, 3) := by decide +kernel
theorem d_V_goesOnWell_114 : decode b_V_goesOnWell 114 = .ok (.iconst 0, 1) := by decide +kernel
theorem d_V_goesOnWell_115 : decode b_V_goesOnWell 115 = .ok (.istore 7, 2) := by decide +kernel
theorem d_V_goesOnWell_117 : decode b_V_goesOnWell 117 = .ok (.iload 6, 2) := by decide +kernel
theorem d_V_goesOnWell_119 : decode b_V_goesOnWell 119 = .ok (.ifCond .eq 17, 3) := by decide +kernel
theorem d_V_goesOnWell_122 : decode b_V_goesOnWell 122 = .ok (.aload_n 0, 1) := by decide +kernel
theorem d_V_goesOnWell_123 : decode b_V_goesOnWell 123 = .ok (.aload_n 1, 1) := by decide +kernel
theorem d_V_goesOnWell_124 : decode b_V_goesOnWell 124 = .ok (.iload_n 2, 1) := by decide +kernel
theorem d_V_goesOnWell_125 : decode b_V_goesOnWell 125 = .ok (.iload 4, 2) := by decide +kernel
theorem d_V_goesOnWell_127 : decode b_V_goesOnWell 127 = .ok (.iadd, 1) := by decide +kernel
theorem d_V_goesOnWell_128 : decode b_V_goesOnWell 128 = .ok (.iload 5, 2) := by decide +kernel
theorem d_V_goesOnWell_130 : decode b_V_goesOnWell 130 = .ok (.invokevirtual 36, 3) := by decide +kernel
theorem d_V_goesOnWell_133 : decode b_V_goesOnWell 133 = .ok (.ifCond .eq 25, 3) := by decide +kernel
theorem d_V_goesOnWell_136 : decode b_V_goesOnWell 136 = .ok (.iload 7, 2) := by decide +kernel
theorem d_V_goesOnWell_138 : decode b_V_goesOnWell 138 = .ok (.ifCond .eq 16, 3) := by decide +kernel
theorem d_V_goesOnWell_141 : decode b_V_goesOnWell 141 = .ok (.aload_n 0, 1) := by decide +kernel
theorem d_V_goesOnWell_142 : decode b_V_goesOnWell 142 = .ok (.aload_n 1, 1) := by decide +kernel
theorem d_V_goesOnWell_143 : decode b_V_goesOnWell 143 = .ok (.iload_n 2, 1) := by decide +kernel
theorem d_V_goesOnWell_144 : decode b_V_goesOnWell 144 = .ok (.iconst 1, 1) := by decide +kernel
theorem d_V_goesOnWell_145 : decode b_V_goesOnWell 145 = .ok (.iadd, 1) := by decide +kernel
theorem d_V_goesOnWell_146 : decode b_V_goesOnWell 146 = .ok (.iload 5, 2) := by decide +kernel
theorem d_V_goesOnWell_148 : decode b_V_goesOnWell 148 = .ok (.invokevirtual 36, 3) := by decide +kernel
theorem d_V_goesOnWell_151 : decode b_V_goesOnWell 151 = .ok (.ifCond .eq 7, 3) := by decide +kernel
theorem d_V_goesOnWell_154 : decode b_V_goesOnWell 154 = .ok (.iconst 1, 1) := by decide +kernel
theorem d_V_goesOnWell_155 : decode b_V_goesOnWell 155 = .ok (.goto 4, 3) := by decide +kernel
theorem d_V_goesOnWell_158 : decode b_V_goesOnWell 158 = .ok (.iconst 0, 1) := by decide +kernel
theorem d_V_goesOnWell_159 : decode b_V_goesOnWell 159 = .ok (.ireturn, 1) := by decide +kernel
theorem d_V_hasGoodArgument_0 : decode b_V_hasGoodArgument 0 = .ok (.iload_n 0, 1) := by decide +kernel
theorem d_V_hasGoodArgument_1 : decode b_V_hasGoodArgument 1 = .ok (.bipush 6, 2) := by decide +kernel
theorem d_V_hasGoodArgument_3 : decode b_V_hasGoodArgument 3 = .ok (.if_icmp .eq 9, 3) := by decide +kernel
theorem d_V_hasGoodArgument_6 : decode b_V_hasGoodArgument 6 = .ok (.iload_n 0, 1) := by decide +kernel
theorem d_V_hasGoodArgument_7 : decode b_V_hasGoodArgument 7 = .ok (.bipush 7, 2) := by decide +kernel
theorem d_V_hasGoodArgument_9 : decode b_V_hasGoodArgument 9 = .ok (.if_icmp .ne 9, 3) := by decide +kernel
theorem d_V_hasGoodArgument_12 : decode b_V_hasGoodArgument 12 = .ok (.iload_n 1, 1) := by decide +kernel
theorem d_V_hasGoodArgument_13 : decode b_V_hasGoodArgument 13 = .ok (.iconst 4, 1) := by decide +kernel
theorem d_V_hasGoodArgument_14 : decode b_V_hasGoodArgument 14 = .ok (.invokestatic 47, 3) := by decide +kernel
theorem d_V_hasGoodArgument_17 : decode b_V_hasGoodArgument 17 = .ok (.ireturn, 1) := by decide +kernel
theorem d_V_hasGoodArgument_18 : decode b_V_hasGoodArgument 18 = .ok (.iload_n 0, 1) := by decide +kernel
theorem d_V_hasGoodArgument_19 : decode b_V_hasGoodArgument 19 = .ok (.bipush 13, 2) := by decide +kernel
theorem d_V_hasGoodArgument_21 : decode b_V_hasGoodArgument 21 = .ok (.if_icmp .ne 12, 3) := by decide +kernel
theorem d_V_hasGoodArgument_24 : decode b_V_hasGoodArgument 24 = .ok (.iload_n 1, 1) := by decide +kernel
theorem d_V_hasGoodArgument_25 : decode b_V_hasGoodArgument 25 = .ok (.bipush 8, 2) := by decide +kernel
theorem d_V_hasGoodArgument_27 : decode b_V_hasGoodArgument 27 = .ok (.invokestatic 47, 3) := by decide +kernel
theorem d_V_hasGoodArgument_30 : decode b_V_hasGoodArgument 30 = .ok (.ifCond .eq 7, 3) := by decide +kernel
theorem d_V_hasGoodArgument_33 : decode b_V_hasGoodArgument 33 = .ok (.iconst 1, 1) := by decide +kernel
theorem d_V_hasGoodArgument_34 : decode b_V_hasGoodArgument 34 = .ok (.goto 4, 3) := by decide +kernel
theorem d_V_hasGoodArgument_37 : decode b_V_hasGoodArgument 37 = .ok (.iconst 0, 1) := by decide +kernel
theorem d_V_hasGoodArgument_38 : decode b_V_hasGoodArgument 38 = .ok (.ireturn, 1) := by decide +kernel
theorem d_J_bitCount_0 : decode b_J_bitCount 0 = .ok (.iload_n 0, 1) := by decide +kernel
theorem d_J_bitCount_1 : decode b_J_bitCount 1 = .ok (.iload_n 0, 1) := by decide +kernel
theorem d_J_bitCount_2 : decode b_J_bitCount 2 = .ok (.iconst 1, 1) := by decide +kernel
theorem d_J_bitCount_3 : decode b_J_bitCount 3 = .ok (.iushr, 1) := by decide +kernel
theorem d_J_bitCount_4 : decode b_J_bitCount 4 = .ok (.ldc_w 265, 3) := by decide +kernel
theorem d_J_bitCount_7 : decode b_J_bitCount 7 = .ok (.iand, 1) := by decide +kernel
theorem d_J_bitCount_8 : decode b_J_bitCount 8 = .ok (.isub, 1) := by decide +kernel
theorem d_J_bitCount_9 : decode b_J_bitCount 9 = .ok (.istore_n 0, 1) := by decide +kernel
theorem d_J_bitCount_10 : decode b_J_bitCount 10 = .ok (.iload_n 0, 1) := by decide +kernel
theorem d_J_bitCount_11 : decode b_J_bitCount 11 = .ok (.ldc_w 266, 3) := by decide +kernel
theorem d_J_bitCount_14 : decode b_J_bitCount 14 = .ok (.iand, 1) := by decide +kernel
theorem d_J_bitCount_15 : decode b_J_bitCount 15 = .ok (.iload_n 0, 1) := by decide +kernel
theorem d_J_bitCount_16 : decode b_J_bitCount 16 = .ok (.iconst 2, 1) := by decide +kernel
theorem d_J_bitCount_17 : decode b_J_bitCount 17 = .ok (.iushr, 1) := by decide +kernel
theorem d_J_bitCount_18 : decode b_J_bitCount 18 = .ok (.ldc_w 266, 3) := by decide +kernel
theorem d_J_bitCount_21 : decode b_J_bitCount 21 = .ok (.iand, 1) := by decide +kernel
theorem d_J_bitCount_22 : decode b_J_bitCount 22 = .ok (.iadd, 1) := by decide +kernel
theorem d_J_bitCount_23 : decode b_J_bitCount 23 = .ok (.istore_n 0, 1) := by decide +kernel
theorem d_J_bitCount_24 : decode b_J_bitCount 24 = .ok (.iload_n 0, 1) := by decide +kernel
theorem d_J_bitCount_25 : decode b_J_bitCount 25 = .ok (.iload_n 0, 1) := by decide +kernel
theorem d_J_bitCount_26 : decode b_J_bitCount 26 = .ok (.iconst 4, 1) := by decide +kernel
theorem d_J_bitCount_27 : decode b_J_bitCount 27 = .ok (.iushr, 1) := by decide +kernel
theorem d_J_bitCount_28 : decode b_J_bitCount 28 = .ok (.iadd, 1) := by decide +kernel
theorem d_J_bitCount_29 : decode b_J_bitCount 29 = .ok (.ldc_w 267, 3) := by decide +kernel
theorem d_J_bitCount_32 : decode b_J_bitCount 32 = .ok (.iand, 1) := by decide +kernel
theorem d_J_bitCount_33 : decode b_J_bitCount 33 = .ok (.istore_n 0, 1) := by decide +kernel
theorem d_J_bitCount_34 : decode b_J_bitCount 34 = .ok (.iload_n 0, 1) := by decide +kernel
theorem d_J_bitCount_35 : decode b_J_bitCount 35 = .ok (.iload_n 0, 1) := by decide +kernel
theorem d_J_bitCount_36 : decode b_J_bitCount 36 = .ok (.bipush 8, 2) := by decide +kernel
theorem d_J_bitCount_38 : decode b_J_bitCount 38 = .ok (.iushr, 1) := by decide +kernel
theorem d_J_bitCount_39 : decode b_J_bitCount 39 = .ok (.iadd, 1) := by decide +kernel
theorem d_J_bitCount_40 : decode b_J_bitCount 40 = .ok (.istore_n 0, 1) := by decide +kernel
theorem d_J_bitCount_41 : decode b_J_bitCount 41 = .ok (.iload_n 0, 1) := by decide +kernel
theorem d_J_bitCount_42 : decode b_J_bitCount 42 = .ok (.iload_n 0, 1) := by decide +kernel
theorem d_J_bitCount_43 : decode b_J_bitCount 43 = .ok (.bipush 16, 2) := by decide +kernel
theorem d_J_bitCount_45 : decode b_J_bitCount 45 = .ok (.iushr, 1) := by decide +kernel
theorem d_J_bitCount_46 : decode b_J_bitCount 46 = .ok (.iadd, 1) := by decide +kernel
theorem d_J_bitCount_47 : decode b_J_bitCount 47 = .ok (.istore_n 0, 1) := by decide +kernel
theorem d_J_bitCount_48 : decode b_J_bitCount 48 = .ok (.iload_n 0, 1) := by decide +kernel
theorem d_J_bitCount_49 : decode b_J_bitCount 49 = .ok (.bipush 63, 2) := by decide +kernel
theorem d_J_bitCount_51 : decode b_J_bitCount 51 = .ok (.iand, 1) := by decide +kernel
theorem d_J_bitCount_52 : decode b_J_bitCount 52 = .ok (.ireturn, 1) := by decide +kernel
theorem d_J_fill_0 : decode b_J_fill 0 = .ok (.iconst 0, 1) := by decide +kernel
theorem d_J_fill_1 : decode b_J_fill 1 = .ok (.istore_n 2, 1) := by decide +kernel
theorem d_J_fill_2 : decode b_J_fill 2 = .ok (.aload_n 0, 1) := by decide +kernel
theorem d_J_fill_3 : decode b_J_fill 3 = .ok (.arraylength, 1) := by decide +kernel
theorem d_J_fill_4 : decode b_J_fill 4 = .ok (.istore_n 3, 1) := by decide +kernel
theorem d_J_fill_5 : decode b_J_fill 5 = .ok (.iload_n 2, 1) := by decide +kernel
theorem d_J_fill_6 : decode b_J_fill 6 = .ok (.iload_n 3, 1) := by decide +kernel
theorem d_J_fill_7 : decode b_J_fill 7 = .ok (.if_icmp .ge 13, 3) := by decide +kernel
theorem d_J_fill_10 : decode b_J_fill 10 = .ok (.aload_n 0, 1) := by decide +kernel
theorem d_J_fill_11 : decode b_J_fill 11 = .ok (.iload_n 2, 1) := by decide +kernel
theorem d_J_fill_12 : decode b_J_fill 12 = .ok (.iload_n 1, 1) := by decide +kernel
theorem d_J_fill_13 : decode b_J_fill 13 = .ok (.iastore, 1) := by decide +kernel
theorem d_J_fill_14 : decode b_J_fill 14 = .ok (.iinc 2 1, 3) := by decide +kernel
theorem d_J_fill_17 : decode b_J_fill 17 = .ok (.goto (-12), 3) := by decide +kernel
theorem d_J_fill_20 : decode b_J_fill 20 = .ok (.return_, 1) := by decide +kernel
