theorem dX0_init_0 : decode cX0_init 0 = .ok (.aload_n 0, 1) := by decide +kernel
theorem dX0_init_1 : decode cX0_init 1 = .ok (.invokespecial 1, 3) := by decide +kernel
theorem dX0_init_4 : decode cX0_init 4 = .ok (.aload_n 0, 1) := by decide +kernel
theorem dX0_init_5 : decode cX0_init 5 = .ok (.iload_n 1, 1) := by decide +kernel
theorem dX0_init_6 : decode cX0_init 6 = .ok (.putfield 7, 3) := by decide +kernel
theorem dX0_init_9 : decode cX0_init 9 = .ok (.aload_n 0, 1) := by decide +kernel
theorem dX0_init_10 : decode cX0_init 10 = .ok (.iload_n 2, 1) := by decide +kernel
theorem dX0_init_11 : decode cX0_init 11 = .ok (.putfield 13, 3) := by decide +kernel
theorem dX0_init_14 : decode cX0_init 14 = .ok (.return_, 1) := by decide +kernel
theorem dX0_of_0 : decode cX0_of 0 = .ok (.iload_n 1, 1) := by decide +kernel
theorem dX0_of_1 : decode cX0_of 1 = .ok (.ifCond .ge 13, 3) := by decide +kernel
theorem dX0_of_4 : decode cX0_of 4 = .ok (.new 16, 3) := by decide +kernel
theorem dX0_of_7 : decode cX0_of 7 = .ok (.dup, 1) := by decide +kernel
theorem dX0_of_8 : decode cX0_of 8 = .ok (.ldc 18, 2) := by decide +kernel
theorem dX0_of_10 : decode cX0_of 10 = .ok (.invokespecial 20, 3) := by decide +kernel
theorem dX0_of_13 : decode cX0_of 13 = .ok (.athrow, 1) := by decide +kernel
theorem dX0_of_14 : decode cX0_of 14 = .ok (.new 8, 3) := by decide +kernel
theorem dX0_of_17 : decode cX0_of 17 = .ok (.dup, 1) := by decide +kernel
theorem dX0_of_18 : decode cX0_of 18 = .ok (.iload_n 0, 1) := by decide +kernel
theorem dX0_of_19 : decode cX0_of 19 = .ok (.iload_n 1, 1) := by decide +kernel
theorem dX0_of_20 : decode cX0_of 20 = .ok (.invokespecial 23, 3) := by decide +kernel
theorem dX0_of_23 : decode cX0_of 23 = .ok (.areturn, 1) := by decide +kernel
theorem dX0_wordAt_0 : decode cX0_wordAt 0 = .ok (.iload_n 1, 1) := by decide +kernel
theorem dX0_wordAt_1 : decode cX0_wordAt 1 = .ok (.ifCond .lt 11, 3) := by decide +kernel
theorem dX0_wordAt_4 : decode cX0_wordAt 4 = .ok (.iload_n 1, 1) := by decide +kernel
theorem dX0_wordAt_5 : decode cX0_wordAt 5 = .ok (.aload_n 0, 1) := by decide +kernel
theorem dX0_wordAt_6 : decode cX0_wordAt 6 = .ok (.getfield 13, 3) := by decide +kernel
theorem dX0_wordAt_9 : decode cX0_wordAt 9 = .ok (.if_icmp .lt 13, 3) := by decide +kernel
theorem dX0_wordAt_12 : decode cX0_wordAt 12 = .ok (.new 26, 3) := by decide +kernel
theorem dX0_wordAt_15 : decode cX0_wordAt 15 = .ok (.dup, 1) := by decide +kernel
theorem dX0_wordAt_16 : decode cX0_wordAt 16 = .ok (.ldc 28, 2) := by decide +kernel
theorem dX0_wordAt_18 : decode cX0_wordAt 18 = .ok (.invokespecial 30, 3) := by decide +kernel
theorem dX0_wordAt_21 : decode cX0_wordAt 21 = .ok (.athrow, 1) := by decide +kernel
theorem dX0_wordAt_22 : decode cX0_wordAt 22 = .ok (.aload_n 0, 1) := by decide +kernel
theorem dX0_wordAt_23 : decode cX0_wordAt 23 = .ok (.getfield 7, 3) := by decide +kernel
theorem dX0_wordAt_26 : decode cX0_wordAt 26 = .ok (.ireturn, 1) := by decide +kernel
theorem dX0_putAt_0 : decode cX0_putAt 0 = .ok (.new 31, 3) := by decide +kernel
theorem dX0_putAt_3 : decode cX0_putAt 3 = .ok (.dup, 1) := by decide +kernel
theorem dX0_putAt_4 : decode cX0_putAt 4 = .ok (.ldc 33, 2) := by decide +kernel
theorem dX0_putAt_6 : decode cX0_putAt 6 = .ok (.invokespecial 35, 3) := by decide +kernel
theorem dX0_putAt_9 : decode cX0_putAt 9 = .ok (.athrow, 1) := by decide +kernel
theorem dX0_append_0 : decode cX0_append 0 = .ok (.new 31, 3) := by decide +kernel
theorem dX0_append_3 : decode cX0_append 3 = .ok (.dup, 1) := by decide +kernel
theorem dX0_append_4 : decode cX0_append 4 = .ok (.ldc 33, 2) := by decide +kernel
theorem dX0_append_6 : decode cX0_append 6 = .ok (.invokespecial 35, 3) := by decide +kernel
theorem dX0_append_9 : decode cX0_append 9 = .ok (.athrow, 1) := by decide +kernel
theorem dX0_takeOut_0 : decode cX0_takeOut 0 = .ok (.new 31, 3) := by decide +kernel
theorem dX0_takeOut_3 : decode cX0_takeOut 3 = .ok (.dup, 1) := by decide +kernel
theorem dX0_takeOut_4 : decode cX0_takeOut 4 = .ok (.ldc 33, 2) := by decide +kernel
theorem dX0_takeOut_6 : decode cX0_takeOut 6 = .ok (.invokespecial 35, 3) := by decide +kernel
theorem dX0_takeOut_9 : decode cX0_takeOut 9 = .ok (.athrow, 1) := by decide +kernel
theorem dX1_init_0 : decode cX1_init 0 = .ok (.aload_n 0, 1) := by decide +kernel
theorem dX1_init_1 : decode cX1_init 1 = .ok (.invokespecial 3, 3) := by decide +kernel
theorem dX1_init_4 : decode cX1_init 4 = .ok (.aload_n 0, 1) := by decide +kernel
theorem dX1_init_5 : decode cX1_init 5 = .ok (.aload_n 1, 1) := by decide +kernel
theorem dX1_init_6 : decode cX1_init 6 = .ok (.putfield 9, 3) := by decide +kernel
theorem dX1_init_9 : decode cX1_init 9 = .ok (.return_, 1) := by decide +kernel
theorem dX1_append_0 : decode cX1_append 0 = .ok (.aload_n 0, 1) := by decide +kernel
theorem dX1_append_1 : decode cX1_append 1 = .ok (.getfield 9, 3) := by decide +kernel
theorem dX1_append_4 : decode cX1_append 4 = .ok (.aload_n 0, 1) := by decide +kernel
theorem dX1_append_5 : decode cX1_append 5 = .ok (.getfield 15, 3) := by decide +kernel
theorem dX1_append_8 : decode cX1_append 8 = .ok (.iload_n 1, 1) := by decide +kernel
theorem dX1_append_9 : decode cX1_append 9 = .ok (.iastore, 1) := by decide +kernel
theorem dX1_append_10 : decode cX1_append 10 = .ok (.aload_n 0, 1) := by decide +kernel
theorem dX1_append_11 : decode cX1_append 11 = .ok (.dup, 1) := by decide +kernel
theorem dX1_append_12 : decode cX1_append 12 = .ok (.getfield 15, 3) := by decide +kernel
theorem dX1_append_15 : decode cX1_append 15 = .ok (.iconst 1, 1) := by decide +kernel
theorem dX1_append_16 : decode cX1_append 16 = .ok (.iadd, 1) := by decide +kernel
theorem dX1_append_17 : decode cX1_append 17 = .ok (.putfield 15, 3) := by decide +kernel
theorem dX1_append_20 : decode cX1_append 20 = .ok (.return_, 1) := by decide +kernel
theorem dX1_appendAll_0 : decode cX1_appendAll 0 = .ok (.aload_n 1, 1) := by decide +kernel
theorem dX1_appendAll_1 : decode cX1_appendAll 1 = .ok (.getfield 15, 3) := by decide +kernel
theorem dX1_appendAll_4 : decode cX1_appendAll 4 = .ok (.istore_n 2, 1) := by decide +kernel
theorem dX1_appendAll_5 : decode cX1_appendAll 5 = .ok (.iconst 0, 1) := by decide +kernel
theorem dX1_appendAll_6 : decode cX1_appendAll 6 = .ok (.istore_n 3, 1) := by decide +kernel
theorem dX1_appendAll_7 : decode cX1_appendAll 7 = .ok (.iload_n 3, 1) := by decide +kernel
theorem dX1_appendAll_8 : decode cX1_appendAll 8 = .ok (.iload_n 2, 1) := by decide +kernel
theorem dX1_appendAll_9 : decode cX1_appendAll 9 = .ok (.if_icmp .ge 19, 3) := by decide +kernel
theorem dX1_appendAll_12 : decode cX1_appendAll 12 = .ok (.aload_n 0, 1) := by decide +kernel
theorem dX1_appendAll_13 : decode cX1_appendAll 13 = .ok (.aload_n 1, 1) := by decide +kernel
theorem dX1_appendAll_14 : decode cX1_appendAll 14 = .ok (.getfield 9, 3) := by decide +kernel
theorem dX1_appendAll_17 : decode cX1_appendAll 17 = .ok (.iload_n 3, 1) := by decide +kernel
theorem dX1_appendAll_18 : decode cX1_appendAll 18 = .ok (.iaload, 1) := by decide +kernel
theorem dX1_appendAll_19 : decode cX1_appendAll 19 = .ok (.invokevirtual 19, 3) := by decide +kernel
theorem dX1_appendAll_22 : decode cX1_appendAll 22 = .ok (.iinc 3 1, 3) := by decide +kernel
theorem dX1_appendAll_25 : decode cX1_appendAll 25 = .ok (.goto (-18), 3) := by decide +kernel
theorem dX1_appendAll_28 : decode cX1_appendAll 28 = .ok (.return_, 1) := by decide +kernel
theorem dX1_become_0 : decode cX1_become 0 = .ok (.aload_n 0, 1) := by decide +kernel
theorem dX1_become_1 : decode cX1_become 1 = .ok (.iconst 0, 1) := by decide +kernel
theorem dX1_become_2 : decode cX1_become 2 = .ok (.putfield 15, 3) := by decide +kernel
theorem dX1_become_5 : decode cX1_become 5 = .ok (.aload_n 0, 1) := by decide +kernel
theorem dX1_become_6 : decode cX1_become 6 = .ok (.aload_n 1, 1) := by decide +kernel
theorem dX1_become_7 : decode cX1_become 7 = .ok (.invokevirtual 23, 3) := by decide +kernel
theorem dX1_become_10 : decode cX1_become 10 = .ok (.return_, 1) := by decide +kernel
theorem dX1_openUp_0 : decode cX1_openUp 0 = .ok (.aload_n 0, 1) := by decide +kernel
theorem dX1_openUp_1 : decode cX1_openUp 1 = .ok (.getfield 15, 3) := by decide +kernel
theorem dX1_openUp_4 : decode cX1_openUp 4 = .ok (.istore_n 3, 1) := by decide +kernel
theorem dX1_openUp_5 : decode cX1_openUp 5 = .ok (.iload_n 3, 1) := by decide +kernel
theorem dX1_openUp_6 : decode cX1_openUp 6 = .ok (.iload_n 1, 1) := by decide +kernel
theorem dX1_openUp_7 : decode cX1_openUp 7 = .ok (.if_icmp .le 23, 3) := by decide +kernel
theorem dX1_openUp_10 : decode cX1_openUp 10 = .ok (.aload_n 0, 1) := by decide +kernel
theorem dX1_openUp_11 : decode cX1_openUp 11 = .ok (.getfield 9, 3) := by decide +kernel
theorem dX1_openUp_14 : decode cX1_openUp 14 = .ok (.iload_n 3, 1) := by decide +kernel
theorem dX1_openUp_15 : decode cX1_openUp 15 = .ok (.aload_n 0, 1) := by decide +kernel
theorem dX1_openUp_16 : decode cX1_openUp 16 = .ok (.getfield 9, 3) := by decide +kernel
theorem dX1_openUp_19 : decode cX1_openUp 19 = .ok (.iload_n 3, 1) := by decide +kernel
theorem dX1_openUp_20 : decode cX1_openUp 20 = .ok (.iconst 1, 1) := by decide +kernel
theorem dX1_openUp_21 : decode cX1_openUp 21 = .ok (.isub, 1) := by decide +kernel
theorem dX1_openUp_22 : decode cX1_openUp 22 = .ok (.iaload, 1) := by decide +kernel
theorem dX1_openUp_23 : decode cX1_openUp 23 = .ok (.iastore, 1) := by decide +kernel
theorem dX1_openUp_24 : decode cX1_openUp 24 = .ok (.iinc 3 (-1), 3) := by decide +kernel
theorem dX1_openUp_27 : decode cX1_openUp 27 = .ok (.goto (-22), 3) := by decide +kernel
theorem dX1_openUp_30 : decode cX1_openUp 30 = .ok (.aload_n 0, 1) := by decide +kernel
theorem dX1_openUp_31 : decode cX1_openUp 31 = .ok (.getfield 9, 3) := by decide +kernel
theorem dX1_openUp_34 : decode cX1_openUp 34 = .ok (.iload_n 1, 1) := by decide +kernel
theorem dX1_openUp_35 : decode cX1_openUp 35 = .ok (.iload_n 2, 1) := by decide +kernel
theorem dX1_openUp_36 : decode cX1_openUp 36 = .ok (.iastore, 1) := by decide +kernel
theorem dX1_openUp_37 : decode cX1_openUp 37 = .ok (.aload_n 0, 1) := by decide +kernel
theorem dX1_openUp_38 : decode cX1_openUp 38 = .ok (.dup, 1) := by decide +kernel
theorem dX1_openUp_39 : decode cX1_openUp 39 = .ok (.getfield 15, 3) := by decide +kernel
theorem dX1_openUp_42 : decode cX1_openUp 42 = .ok (.iconst 1, 1) := by decide +kernel
theorem dX1_openUp_43 : decode cX1_openUp 43 = .ok (.iadd, 1) := by decide +kernel
theorem dX1_openUp_44 : decode cX1_openUp 44 = .ok (.putfield 15, 3) := by decide +kernel
theorem dX1_openUp_47 : decode cX1_openUp 47 = .ok (.return_, 1) := by decide +kernel
theorem dX1_closeUp_0 : decode cX1_closeUp 0 = .ok (.iload_n 2, 1) := by decide +kernel
theorem dX1_closeUp_1 : decode cX1_closeUp 1 = .ok (.iload_n 1, 1) := by decide +kernel
theorem dX1_closeUp_2 : decode cX1_closeUp 2 = .ok (.isub, 1) := by decide +kernel
theorem dX1_closeUp_3 : decode cX1_closeUp 3 = .ok (.istore_n 3, 1) := by decide +kernel
theorem dX1_closeUp_4 : decode cX1_closeUp 4 = .ok (.iload_n 2, 1) := by decide +kernel
theorem dX1_closeUp_5 : decode cX1_closeUp 5 = .ok (.istore 4, 2) := by decide +kernel
theorem dX1_closeUp_7 : decode cX1_closeUp 7 = .ok (.iload 4, 2) := by decide +kernel
theorem dX1_closeUp_9 : decode cX1_closeUp 9 = .ok (.aload_n 0, 1) := by decide +kernel
theorem dX1_closeUp_10 : decode cX1_closeUp 10 = .ok (.getfield 15, 3) := by decide +kernel
theorem dX1_closeUp_13 : decode cX1_closeUp 13 = .ok (.if_icmp .ge 25, 3) := by decide +kernel
theorem dX1_closeUp_16 : decode cX1_closeUp 16 = .ok (.aload_n 0, 1) := by decide +kernel
theorem dX1_closeUp_17 : decode cX1_closeUp 17 = .ok (.getfield 9, 3) := by decide +kernel
theorem dX1_closeUp_20 : decode cX1_closeUp 20 = .ok (.iload 4, 2) := by decide +kernel
theorem dX1_closeUp_22 : decode cX1_closeUp 22 = .ok (.iload_n 3, 1) := by decide +kernel
theorem dX1_closeUp_23 : decode cX1_closeUp 23 = .ok (.isub, 1) := by decide +kernel
theorem dX1_closeUp_24 : decode cX1_closeUp 24 = .ok (.aload_n 0, 1) := by decide +kernel
theorem dX1_closeUp_25 : decode cX1_closeUp 25 = .ok (.getfield 9, 3) := by decide +kernel
theorem dX1_closeUp_28 : decode cX1_closeUp 28 = .ok (.iload 4, 2) := by decide +kernel
theorem dX1_closeUp_30 : decode cX1_closeUp 30 = .ok (.iaload, 1) := by decide +kernel
theorem dX1_closeUp_31 : decode cX1_closeUp 31 = .ok (.iastore, 1) := by decide +kernel
theorem dX1_closeUp_32 : decode cX1_closeUp 32 = .ok (.iinc 4 1, 3) := by decide +kernel
theorem dX1_closeUp_35 : decode cX1_closeUp 35 = .ok (.goto (-28), 3) := by decide +kernel
theorem dX1_closeUp_38 : decode cX1_closeUp 38 = .ok (.aload_n 0, 1) := by decide +kernel
theorem dX1_closeUp_39 : decode cX1_closeUp 39 = .ok (.dup, 1) := by decide +kernel
theorem dX1_closeUp_40 : decode cX1_closeUp 40 = .ok (.getfield 15, 3) := by decide +kernel
theorem dX1_closeUp_43 : decode cX1_closeUp 43 = .ok (.iload_n 3, 1) := by decide +kernel
theorem dX1_closeUp_44 : decode cX1_closeUp 44 = .ok (.isub, 1) := by decide +kernel
theorem dX1_closeUp_45 : decode cX1_closeUp 45 = .ok (.putfield 15, 3) := by decide +kernel
theorem dX1_closeUp_48 : decode cX1_closeUp 48 = .ok (.return_, 1) := by decide +kernel
theorem dX1_exchange_0 : decode cX1_exchange 0 = .ok (.aload_n 0, 1) := by decide +kernel
theorem dX1_exchange_1 : decode cX1_exchange 1 = .ok (.getfield 9, 3) := by decide +kernel
theorem dX1_exchange_4 : decode cX1_exchange 4 = .ok (.iload_n 1, 1) := by decide +kernel
theorem dX1_exchange_5 : decode cX1_exchange 5 = .ok (.iaload, 1) := by decide +kernel
theorem dX1_exchange_6 : decode cX1_exchange 6 = .ok (.istore_n 3, 1) := by decide +kernel
theorem dX1_exchange_7 : decode cX1_exchange 7 = .ok (.aload_n 0, 1) := by decide +kernel
theorem dX1_exchange_8 : decode cX1_exchange 8 = .ok (.getfield 9, 3) := by decide +kernel
theorem dX1_exchange_11 : decode cX1_exchange 11 = .ok (.iload_n 1, 1) := by decide +kernel
theorem dX1_exchange_12 : decode cX1_exchange 12 = .ok (.aload_n 0, 1) := by decide +kernel
theorem dX1_exchange_13 : decode cX1_exchange 13 = .ok (.getfield 9, 3) := by decide +kernel
theorem dX1_exchange_16 : decode cX1_exchange 16 = .ok (.iload_n 2, 1) := by decide +kernel
theorem dX1_exchange_17 : decode cX1_exchange 17 = .ok (.iaload, 1) := by decide +kernel
theorem dX1_exchange_18 : decode cX1_exchange 18 = .ok (.iastore, 1) := by decide +kernel
theorem dX1_exchange_19 : decode cX1_exchange 19 = .ok (.aload_n 0, 1) := by decide +kernel
theorem dX1_exchange_20 : decode cX1_exchange 20 = .ok (.getfield 9, 3) := by decide +kernel
theorem dX1_exchange_23 : decode cX1_exchange 23 = .ok (.iload_n 2, 1) := by decide +kernel
theorem dX1_exchange_24 : decode cX1_exchange 24 = .ok (.iload_n 3, 1) := by decide +kernel
theorem dX1_exchange_25 : decode cX1_exchange 25 = .ok (.iastore, 1) := by decide +kernel
theorem dX1_exchange_26 : decode cX1_exchange 26 = .ok (.return_, 1) := by decide +kernel
theorem dX1_turnRound_0 : decode cX1_turnRound 0 = .ok (.iload_n 2, 1) := by decide +kernel
theorem dX1_turnRound_1 : decode cX1_turnRound 1 = .ok (.iload_n 1, 1) := by decide +kernel
theorem dX1_turnRound_2 : decode cX1_turnRound 2 = .ok (.isub, 1) := by decide +kernel
theorem dX1_turnRound_3 : decode cX1_turnRound 3 = .ok (.iconst 2, 1) := by decide +kernel
theorem dX1_turnRound_4 : decode cX1_turnRound 4 = .ok (.idiv, 1) := by decide +kernel
theorem dX1_turnRound_5 : decode cX1_turnRound 5 = .ok (.istore_n 3, 1) := by decide +kernel
theorem dX1_turnRound_6 : decode cX1_turnRound 6 = .ok (.iconst 0, 1) := by decide +kernel
theorem dX1_turnRound_7 : decode cX1_turnRound 7 = .ok (.istore 4, 2) := by decide +kernel
theorem dX1_turnRound_9 : decode cX1_turnRound 9 = .ok (.iload 4, 2) := by decide +kernel
theorem dX1_turnRound_11 : decode cX1_turnRound 11 = .ok (.iload_n 3, 1) := by decide +kernel
theorem dX1_turnRound_12 : decode cX1_turnRound 12 = .ok (.if_icmp .ge 23, 3) := by decide +kernel
theorem dX1_turnRound_15 : decode cX1_turnRound 15 = .ok (.aload_n 0, 1) := by decide +kernel
theorem dX1_turnRound_16 : decode cX1_turnRound 16 = .ok (.iload_n 1, 1) := by decide +kernel
theorem dX1_turnRound_17 : decode cX1_turnRound 17 = .ok (.iload 4, 2) := by decide +kernel
theorem dX1_turnRound_19 : decode cX1_turnRound 19 = .ok (.iadd, 1) := by decide +kernel
theorem dX1_turnRound_20 : decode cX1_turnRound 20 = .ok (.iload_n 2, 1) := by decide +kernel
theorem dX1_turnRound_21 : decode cX1_turnRound 21 = .ok (.iconst 1, 1) := by decide +kernel
theorem dX1_turnRound_22 : decode cX1_turnRound 22 = .ok (.isub, 1) := by decide +kernel
theorem dX1_turnRound_23 : decode cX1_turnRound 23 = .ok (.iload 4, 2) := by decide +kernel
theorem dX1_turnRound_25 : decode cX1_turnRound 25 = .ok (.isub, 1) := by decide +kernel
theorem dX1_turnRound_26 : decode cX1_turnRound 26 = .ok (.invokevirtual 27, 3) := by decide +kernel
theorem dX1_turnRound_29 : decode cX1_turnRound 29 = .ok (.iinc 4 1, 3) := by decide +kernel
theorem dX1_turnRound_32 : decode cX1_turnRound 32 = .ok (.goto (-23), 3) := by decide +kernel
theorem dX1_turnRound_35 : decode cX1_turnRound 35 = .ok (.return_, 1) := by decide +kernel
theorem dX1_timesOf_0 : decode cX1_timesOf 0 = .ok (.iconst 0, 1) := by decide +kernel
theorem dX1_timesOf_1 : decode cX1_timesOf 1 = .ok (.istore_n 2, 1) := by decide +kernel
theorem dX1_timesOf_2 : decode cX1_timesOf 2 = .ok (.iconst 0, 1) := by decide +kernel
theorem dX1_timesOf_3 : decode cX1_timesOf 3 = .ok (.istore_n 3, 1) := by decide +kernel
theorem dX1_timesOf_4 : decode cX1_timesOf 4 = .ok (.iload_n 3, 1) := by decide +kernel
theorem dX1_timesOf_5 : decode cX1_timesOf 5 = .ok (.aload_n 0, 1) := by decide +kernel
theorem dX1_timesOf_6 : decode cX1_timesOf 6 = .ok (.getfield 15, 3) := by decide +kernel
theorem dX1_timesOf_9 : decode cX1_timesOf 9 = .ok (.if_icmp .ge 22, 3) := by decide +kernel
theorem dX1_timesOf_12 : decode cX1_timesOf 12 = .ok (.aload_n 0, 1) := by decide +kernel
theorem dX1_timesOf_13 : decode cX1_timesOf 13 = .ok (.getfield 9, 3) := by decide +kernel
theorem dX1_timesOf_16 : decode cX1_timesOf 16 = .ok (.iload_n 3, 1) := by decide +kernel
theorem dX1_timesOf_17 : decode cX1_timesOf 17 = .ok (.iaload, 1) := by decide +kernel
theorem dX1_timesOf_18 : decode cX1_timesOf 18 = .ok (.iload_n 1, 1) := by decide +kernel
theorem dX1_timesOf_19 : decode cX1_timesOf 19 = .ok (.if_icmp .ne 6, 3) := by decide +kernel
theorem dX1_timesOf_22 : decode cX1_timesOf 22 = .ok (.iinc 2 1, 3) := by decide +kernel
theorem dX1_timesOf_25 : decode cX1_timesOf 25 = .ok (.iinc 3 1, 3) := by decide +kernel
theorem dX1_timesOf_28 : decode cX1_timesOf 28 = .ok (.goto (-24), 3) := by decide +kernel
theorem dX1_timesOf_31 : decode cX1_timesOf 31 = .ok (.iload_n 2, 1) := by decide +kernel
theorem dX1_timesOf_32 : decode cX1_timesOf 32 = .ok (.ireturn, 1) := by decide +kernel
theorem dX1_hasWord_0 : decode cX1_hasWord 0 = .ok (.aload_n 0, 1) := by decide +kernel
theorem dX1_hasWord_1 : decode cX1_hasWord 1 = .ok (.iload_n 1, 1) := by decide +kernel
theorem dX1_hasWord_2 : decode cX1_hasWord 2 = .ok (.invokevirtual 31, 3) := by decide +kernel
theorem dX1_hasWord_5 : decode cX1_hasWord 5 = .ok (.ifCond .le 7, 3) := by decide +kernel
theorem dX1_hasWord_8 : decode cX1_hasWord 8 = .ok (.iconst 1, 1) := by decide +kernel
theorem dX1_hasWord_9 : decode cX1_hasWord 9 = .ok (.goto 4, 3) := by decide +kernel
theorem dX1_hasWord_12 : decode cX1_hasWord 12 = .ok (.iconst 0, 1) := by decide +kernel
theorem dX1_hasWord_13 : decode cX1_hasWord 13 = .ok (.ireturn, 1) := by decide +kernel
theorem dX1_isFirstOfItsWord_0 : decode cX1_isFirstOfItsWord 0 = .ok (.iconst 0, 1) := by decide +kernel
theorem dX1_isFirstOfItsWord_1 : decode cX1_isFirstOfItsWord 1 = .ok (.istore_n 2, 1) := by decide +kernel
theorem dX1_isFirstOfItsWord_2 : decode cX1_isFirstOfItsWord 2 = .ok (.iload_n 2, 1) := by decide +kernel
theorem dX1_isFirstOfItsWord_3 : decode cX1_isFirstOfItsWord 3 = .ok (.iload_n 1, 1) := by decide +kernel
theorem dX1_isFirstOfItsWord_4 : decode cX1_isFirstOfItsWord 4 = .ok (.if_icmp .ge 26, 3) := by decide +kernel
theorem dX1_isFirstOfItsWord_7 : decode cX1_isFirstOfItsWord 7 = .ok (.aload_n 0, 1) := by decide +kernel
theorem dX1_isFirstOfItsWord_8 : decode cX1_isFirstOfItsWord 8 = .ok (.getfield 9, 3) := by decide +kernel
theorem dX1_isFirstOfItsWord_11 : decode cX1_isFirstOfItsWord 11 = .ok (.iload_n 2, 1) := by decide +kernel
theorem dX1_isFirstOfItsWord_12 : decode cX1_isFirstOfItsWord 12 = .ok (.iaload, 1) := by decide +kernel
theorem dX1_isFirstOfItsWord_13 : decode cX1_isFirstOfItsWord 13 = .ok (.aload_n 0, 1) := by decide +kernel
theorem dX1_isFirstOfItsWord_14 : decode cX1_isFirstOfItsWord 14 = .ok (.getfield 9, 3) := by decide +kernel
theorem dX1_isFirstOfItsWord_17 : decode cX1_isFirstOfItsWord 17 = .ok (.iload_n 1, 1) := by decide +kernel
theorem dX1_isFirstOfItsWord_18 : decode cX1_isFirstOfItsWord 18 = .ok (.iaload, 1) := by decide +kernel
theorem dX1_isFirstOfItsWord_19 : decode cX1_isFirstOfItsWord 19 = .ok (.if_icmp .ne 5, 3) := by decide +kernel
theorem dX1_isFirstOfItsWord_22 : decode cX1_isFirstOfItsWord 22 = .ok (.iconst 0, 1) := by decide +kernel
theorem dX1_isFirstOfItsWord_23 : decode cX1_isFirstOfItsWord 23 = .ok (.ireturn, 1) := by decide +kernel
theorem dX1_isFirstOfItsWord_24 : decode cX1_isFirstOfItsWord 24 = .ok (.iinc 2 1, 3) := by decide +kernel
theorem dX1_isFirstOfItsWord_27 : decode cX1_isFirstOfItsWord 27 = .ok (.goto (-25), 3) := by decide +kernel
theorem dX1_isFirstOfItsWord_30 : decode cX1_isFirstOfItsWord 30 = .ok (.iconst 1, 1) := by decide +kernel
theorem dX1_isFirstOfItsWord_31 : decode cX1_isFirstOfItsWord 31 = .ok (.ireturn, 1) := by decide +kernel
theorem dX1_differencesFrom_0 : decode cX1_differencesFrom 0 = .ok (.iconst 0, 1) := by decide +kernel
theorem dX1_differencesFrom_1 : decode cX1_differencesFrom 1 = .ok (.istore_n 2, 1) := by decide +kernel
theorem dX1_differencesFrom_2 : decode cX1_differencesFrom 2 = .ok (.iconst 0, 1) := by decide +kernel
theorem dX1_differencesFrom_3 : decode cX1_differencesFrom 3 = .ok (.istore_n 3, 1) := by decide +kernel
theorem dX1_differencesFrom_4 : decode cX1_differencesFrom 4 = .ok (.iload_n 3, 1) := by decide +kernel
theorem dX1_differencesFrom_5 : decode cX1_differencesFrom 5 = .ok (.aload_n 0, 1) := by decide +kernel
theorem dX1_differencesFrom_6 : decode cX1_differencesFrom 6 = .ok (.getfield 15, 3) := by decide +kernel
theorem dX1_differencesFrom_9 : decode cX1_differencesFrom 9 = .ok (.if_icmp .ge 35, 3) := by decide +kernel
theorem dX1_differencesFrom_12 : decode cX1_differencesFrom 12 = .ok (.iload_n 3, 1) := by decide +kernel
theorem dX1_differencesFrom_13 : decode cX1_differencesFrom 13 = .ok (.aload_n 1, 1) := by decide +kernel
theorem dX1_differencesFrom_14 : decode cX1_differencesFrom 14 = .ok (.getfield 15, 3) := by decide +kernel
theorem dX1_differencesFrom_17 : decode cX1_differencesFrom 17 = .ok (.if_icmp .ge 27, 3) := by decide +kernel
theorem dX1_differencesFrom_20 : decode cX1_differencesFrom 20 = .ok (.aload_n 0, 1) := by decide +kernel
theorem dX1_differencesFrom_21 : decode cX1_differencesFrom 21 = .ok (.getfield 9, 3) := by decide +kernel
theorem dX1_differencesFrom_24 : decode cX1_differencesFrom 24 = .ok (.iload_n 3, 1) := by decide +kernel
theorem dX1_differencesFrom_25 : decode cX1_differencesFrom 25 = .ok (.iaload, 1) := by decide +kernel
theorem dX1_differencesFrom_26 : decode cX1_differencesFrom 26 = .ok (.aload_n 1, 1) := by decide +kernel
theorem dX1_differencesFrom_27 : decode cX1_differencesFrom 27 = .ok (.getfield 9, 3) := by decide +kernel
theorem dX1_differencesFrom_30 : decode cX1_differencesFrom 30 = .ok (.iload_n 3, 1) := by decide +kernel
theorem dX1_differencesFrom_31 : decode cX1_differencesFrom 31 = .ok (.iaload, 1) := by decide +kernel
theorem dX1_differencesFrom_32 : decode cX1_differencesFrom 32 = .ok (.if_icmp .eq 6, 3) := by decide +kernel
theorem dX1_differencesFrom_35 : decode cX1_differencesFrom 35 = .ok (.iinc 2 1, 3) := by decide +kernel
theorem dX1_differencesFrom_38 : decode cX1_differencesFrom 38 = .ok (.iinc 3 1, 3) := by decide +kernel
theorem dX1_differencesFrom_41 : decode cX1_differencesFrom 41 = .ok (.goto (-37), 3) := by decide +kernel
theorem dX1_differencesFrom_44 : decode cX1_differencesFrom 44 = .ok (.iload_n 2, 1) := by decide +kernel
theorem dX1_differencesFrom_45 : decode cX1_differencesFrom 45 = .ok (.ireturn, 1) := by decide +kernel
theorem dX1_holds_0 : decode cX1_holds 0 = .ok (.iload_n 2, 1) := by decide +kernel
theorem dX1_holds_1 : decode cX1_holds 1 = .ok (.aload_n 0, 1) := by decide +kernel
theorem dX1_holds_2 : decode cX1_holds 2 = .ok (.getfield 15, 3) := by decide +kernel
theorem dX1_holds_5 : decode cX1_holds 5 = .ok (.aload_n 1, 1) := by decide +kernel
theorem dX1_holds_6 : decode cX1_holds 6 = .ok (.getfield 15, 3) := by decide +kernel
theorem dX1_holds_9 : decode cX1_holds 9 = .ok (.isub, 1) := by decide +kernel
theorem dX1_holds_10 : decode cX1_holds 10 = .ok (.if_icmp .le 5, 3) := by decide +kernel
theorem dX1_holds_13 : decode cX1_holds 13 = .ok (.iconst 0, 1) := by decide +kernel
theorem dX1_holds_14 : decode cX1_holds 14 = .ok (.ireturn, 1) := by decide +kernel
theorem dX1_holds_15 : decode cX1_holds 15 = .ok (.iconst 0, 1) := by decide +kernel
theorem dX1_holds_16 : decode cX1_holds 16 = .ok (.istore_n 3, 1) := by decide +kernel
theorem dX1_holds_17 : decode cX1_holds 17 = .ok (.iload_n 3, 1) := by decide +kernel
theorem dX1_holds_18 : decode cX1_holds 18 = .ok (.aload_n 1, 1) := by decide +kernel
theorem dX1_holds_19 : decode cX1_holds 19 = .ok (.getfield 15, 3) := by decide +kernel
theorem dX1_holds_22 : decode cX1_holds 22 = .ok (.if_icmp .ge 28, 3) := by decide +kernel
theorem dX1_holds_25 : decode cX1_holds 25 = .ok (.aload_n 0, 1) := by decide +kernel
theorem dX1_holds_26 : decode cX1_holds 26 = .ok (.getfield 9, 3) := by decide +kernel
theorem dX1_holds_29 : decode cX1_holds 29 = .ok (.iload_n 2, 1) := by decide +kernel
theorem dX1_holds_30 : decode cX1_holds 30 = .ok (.iload_n 3, 1) := by decide +kernel
theorem dX1_holds_31 : decode cX1_holds 31 = .ok (.iadd, 1) := by decide +kernel
theorem dX1_holds_32 : decode cX1_holds 32 = .ok (.iaload, 1) := by decide +kernel
theorem dX1_holds_33 : decode cX1_holds 33 = .ok (.aload_n 1, 1) := by decide +kernel
theorem dX1_holds_34 : decode cX1_holds 34 = .ok (.getfield 9, 3) := by decide +kernel
theorem dX1_holds_37 : decode cX1_holds 37 = .ok (.iload_n 3, 1) := by decide +kernel
theorem dX1_holds_38 : decode cX1_holds 38 = .ok (.iaload, 1) := by decide +kernel
theorem dX1_holds_39 : decode cX1_holds 39 = .ok (.if_icmp .eq 5, 3) := by decide +kernel
theorem dX1_holds_42 : decode cX1_holds 42 = .ok (.iconst 0, 1) := by decide +kernel
theorem dX1_holds_43 : decode cX1_holds 43 = .ok (.ireturn, 1) := by decide +kernel
theorem dX1_holds_44 : decode cX1_holds 44 = .ok (.iinc 3 1, 3) := by decide +kernel
theorem dX1_holds_47 : decode cX1_holds 47 = .ok (.goto (-30), 3) := by decide +kernel
theorem dX1_holds_50 : decode cX1_holds 50 = .ok (.iconst 1, 1) := by decide +kernel
theorem dX1_holds_51 : decode cX1_holds 51 = .ok (.ireturn, 1) := by decide +kernel
theorem dX1_firstPlaceOf_0 : decode cX1_firstPlaceOf 0 = .ok (.iload_n 2, 1) := by decide +kernel
theorem dX1_firstPlaceOf_1 : decode cX1_firstPlaceOf 1 = .ok (.istore 4, 2) := by decide +kernel
theorem dX1_firstPlaceOf_3 : decode cX1_firstPlaceOf 3 = .ok (.iload 4, 2) := by decide +kernel
theorem dX1_firstPlaceOf_5 : decode cX1_firstPlaceOf 5 = .ok (.iload_n 3, 1) := by decide +kernel
theorem dX1_firstPlaceOf_6 : decode cX1_firstPlaceOf 6 = .ok (.aload_n 1, 1) := by decide +kernel
theorem dX1_firstPlaceOf_7 : decode cX1_firstPlaceOf 7 = .ok (.getfield 15, 3) := by decide +kernel
theorem dX1_firstPlaceOf_10 : decode cX1_firstPlaceOf 10 = .ok (.isub, 1) := by decide +kernel
theorem dX1_firstPlaceOf_11 : decode cX1_firstPlaceOf 11 = .ok (.if_icmp .gt 22, 3) := by decide +kernel
theorem dX1_firstPlaceOf_14 : decode cX1_firstPlaceOf 14 = .ok (.aload_n 0, 1) := by decide +kernel
theorem dX1_firstPlaceOf_15 : decode cX1_firstPlaceOf 15 = .ok (.aload_n 1, 1) := by decide +kernel
theorem dX1_firstPlaceOf_16 : decode cX1_firstPlaceOf 16 = .ok (.iload 4, 2) := by decide +kernel
theorem dX1_firstPlaceOf_18 : decode cX1_firstPlaceOf 18 = .ok (.invokevirtual 35, 3) := by decide +kernel
theorem dX1_firstPlaceOf_21 : decode cX1_firstPlaceOf 21 = .ok (.ifCond .eq 6, 3) := by decide +kernel
theorem dX1_firstPlaceOf_24 : decode cX1_firstPlaceOf 24 = .ok (.iload 4, 2) := by decide +kernel
theorem dX1_firstPlaceOf_26 : decode cX1_firstPlaceOf 26 = .ok (.ireturn, 1) := by decide +kernel
theorem dX1_firstPlaceOf_27 : decode cX1_firstPlaceOf 27 = .ok (.iinc 4 1, 3) := by decide +kernel
theorem dX1_firstPlaceOf_30 : decode cX1_firstPlaceOf 30 = .ok (.goto (-27), 3) := by decide +kernel
theorem dX1_firstPlaceOf_33 : decode cX1_firstPlaceOf 33 = .ok (.iconst (-1), 1) := by decide +kernel
theorem dX1_firstPlaceOf_34 : decode cX1_firstPlaceOf 34 = .ok (.ireturn, 1) := by decide +kernel
theorem dX1_lastPlaceOf_0 : decode cX1_lastPlaceOf 0 = .ok (.aload_n 0, 1) := by decide +kernel
theorem dX1_lastPlaceOf_1 : decode cX1_lastPlaceOf 1 = .ok (.getfield 15, 3) := by decide +kernel
theorem dX1_lastPlaceOf_4 : decode cX1_lastPlaceOf 4 = .ok (.aload_n 1, 1) := by decide +kernel
theorem dX1_lastPlaceOf_5 : decode cX1_lastPlaceOf 5 = .ok (.getfield 15, 3) := by decide +kernel
theorem dX1_lastPlaceOf_8 : decode cX1_lastPlaceOf 8 = .ok (.isub, 1) := by decide +kernel
theorem dX1_lastPlaceOf_9 : decode cX1_lastPlaceOf 9 = .ok (.istore_n 2, 1) := by decide +kernel
theorem dX1_lastPlaceOf_10 : decode cX1_lastPlaceOf 10 = .ok (.iload_n 2, 1) := by decide +kernel
theorem dX1_lastPlaceOf_11 : decode cX1_lastPlaceOf 11 = .ok (.ifCond .lt 20, 3) := by decide +kernel
theorem dX1_lastPlaceOf_14 : decode cX1_lastPlaceOf 14 = .ok (.aload_n 0, 1) := by decide +kernel
theorem dX1_lastPlaceOf_15 : decode cX1_lastPlaceOf 15 = .ok (.aload_n 1, 1) := by decide +kernel
theorem dX1_lastPlaceOf_16 : decode cX1_lastPlaceOf 16 = .ok (.iload_n 2, 1) := by decide +kernel
theorem dX1_lastPlaceOf_17 : decode cX1_lastPlaceOf 17 = .ok (.invokevirtual 35, 3) := by decide +kernel
theorem dX1_lastPlaceOf_20 : decode cX1_lastPlaceOf 20 = .ok (.ifCond .eq 5, 3) := by decide +kernel
theorem dX1_lastPlaceOf_23 : decode cX1_lastPlaceOf 23 = .ok (.iload_n 2, 1) := by decide +kernel
theorem dX1_lastPlaceOf_24 : decode cX1_lastPlaceOf 24 = .ok (.ireturn, 1) := by decide +kernel
theorem dX1_lastPlaceOf_25 : decode cX1_lastPlaceOf 25 = .ok (.iinc 2 (-1), 3) := by decide +kernel
theorem dX1_lastPlaceOf_28 : decode cX1_lastPlaceOf 28 = .ok (.goto (-18), 3) := by decide +kernel
theorem dX1_lastPlaceOf_31 : decode cX1_lastPlaceOf 31 = .ok (.iconst (-1), 1) := by decide +kernel
theorem dX1_lastPlaceOf_32 : decode cX1_lastPlaceOf 32 = .ok (.ireturn, 1) := by decide +kernel
theorem dX1_timesAnywhere_0 : decode cX1_timesAnywhere 0 = .ok (.iconst 0, 1) := by decide +kernel
theorem dX1_timesAnywhere_1 : decode cX1_timesAnywhere 1 = .ok (.istore_n 2, 1) := by decide +kernel
theorem dX1_timesAnywhere_2 : decode cX1_timesAnywhere 2 = .ok (.iconst 0, 1) := by decide +kernel
theorem dX1_timesAnywhere_3 : decode cX1_timesAnywhere 3 = .ok (.istore_n 3, 1) := by decide +kernel
theorem dX1_timesAnywhere_4 : decode cX1_timesAnywhere 4 = .ok (.iload_n 3, 1) := by decide +kernel
theorem dX1_timesAnywhere_5 : decode cX1_timesAnywhere 5 = .ok (.aload_n 0, 1) := by decide +kernel
theorem dX1_timesAnywhere_6 : decode cX1_timesAnywhere 6 = .ok (.getfield 15, 3) := by decide +kernel
theorem dX1_timesAnywhere_9 : decode cX1_timesAnywhere 9 = .ok (.aload_n 1, 1) := by decide +kernel
theorem dX1_timesAnywhere_10 : decode cX1_timesAnywhere 10 = .ok (.getfield 15, 3) := by decide +kernel
theorem dX1_timesAnywhere_13 : decode cX1_timesAnywhere 13 = .ok (.isub, 1) := by decide +kernel
theorem dX1_timesAnywhere_14 : decode cX1_timesAnywhere 14 = .ok (.if_icmp .gt 21, 3) := by decide +kernel
theorem dX1_timesAnywhere_17 : decode cX1_timesAnywhere 17 = .ok (.aload_n 0, 1) := by decide +kernel
theorem dX1_timesAnywhere_18 : decode cX1_timesAnywhere 18 = .ok (.aload_n 1, 1) := by decide +kernel
theorem dX1_timesAnywhere_19 : decode cX1_timesAnywhere 19 = .ok (.iload_n 3, 1) := by decide +kernel
theorem dX1_timesAnywhere_20 : decode cX1_timesAnywhere 20 = .ok (.invokevirtual 35, 3) := by decide +kernel
theorem dX1_timesAnywhere_23 : decode cX1_timesAnywhere 23 = .ok (.ifCond .eq 6, 3) := by decide +kernel
theorem dX1_timesAnywhere_26 : decode cX1_timesAnywhere 26 = .ok (.iinc 2 1, 3) := by decide +kernel
theorem dX1_timesAnywhere_29 : decode cX1_timesAnywhere 29 = .ok (.iinc 3 1, 3) := by decide +kernel
theorem dX1_timesAnywhere_32 : decode cX1_timesAnywhere 32 = .ok (.goto (-28), 3) := by decide +kernel
theorem dX1_timesAnywhere_35 : decode cX1_timesAnywhere 35 = .ok (.iload_n 2, 1) := by decide +kernel
theorem dX1_timesAnywhere_36 : decode cX1_timesAnywhere 36 = .ok (.ireturn, 1) := by decide +kernel
theorem dX1_timesApart_0 : decode cX1_timesApart 0 = .ok (.iconst 0, 1) := by decide +kernel
theorem dX1_timesApart_1 : decode cX1_timesApart 1 = .ok (.istore_n 2, 1) := by decide +kernel
theorem dX1_timesApart_2 : decode cX1_timesApart 2 = .ok (.iconst 0, 1) := by decide +kernel
theorem dX1_timesApart_3 : decode cX1_timesApart 3 = .ok (.istore_n 3, 1) := by decide +kernel
theorem dX1_timesApart_4 : decode cX1_timesApart 4 = .ok (.iconst 0, 1) := by decide +kernel
theorem dX1_timesApart_5 : decode cX1_timesApart 5 = .ok (.istore 4, 2) := by decide +kernel
theorem dX1_timesApart_7 : decode cX1_timesApart 7 = .ok (.iload 4, 2) := by decide +kernel
theorem dX1_timesApart_9 : decode cX1_timesApart 9 = .ok (.aload_n 0, 1) := by decide +kernel
theorem dX1_timesApart_10 : decode cX1_timesApart 10 = .ok (.getfield 15, 3) := by decide +kernel
theorem dX1_timesApart_13 : decode cX1_timesApart 13 = .ok (.aload_n 1, 1) := by decide +kernel
theorem dX1_timesApart_14 : decode cX1_timesApart 14 = .ok (.getfield 15, 3) := by decide +kernel
theorem dX1_timesApart_17 : decode cX1_timesApart 17 = .ok (.isub, 1) := by decide +kernel
theorem dX1_timesApart_18 : decode cX1_timesApart 18 = .ok (.if_icmp .gt 36, 3) := by decide +kernel
theorem dX1_timesApart_21 : decode cX1_timesApart 21 = .ok (.iload 4, 2) := by decide +kernel
theorem dX1_timesApart_23 : decode cX1_timesApart 23 = .ok (.iload_n 3, 1) := by decide +kernel
theorem dX1_timesApart_24 : decode cX1_timesApart 24 = .ok (.if_icmp .lt 24, 3) := by decide +kernel
theorem dX1_timesApart_27 : decode cX1_timesApart 27 = .ok (.aload_n 0, 1) := by decide +kernel
theorem dX1_timesApart_28 : decode cX1_timesApart 28 = .ok (.aload_n 1, 1) := by decide +kernel
theorem dX1_timesApart_29 : decode cX1_timesApart 29 = .ok (.iload 4, 2) := by decide +kernel
theorem dX1_timesApart_31 : decode cX1_timesApart 31 = .ok (.invokevirtual 35, 3) := by decide +kernel
theorem dX1_timesApart_34 : decode cX1_timesApart 34 = .ok (.ifCond .eq 14, 3) := by decide +kernel
theorem dX1_timesApart_37 : decode cX1_timesApart 37 = .ok (.iinc 2 1, 3) := by decide +kernel
theorem dX1_timesApart_40 : decode cX1_timesApart 40 = .ok (.iload 4, 2) := by decide +kernel
theorem dX1_timesApart_42 : decode cX1_timesApart 42 = .ok (.aload_n 1, 1) := by decide +kernel
theorem dX1_timesApart_43 : decode cX1_timesApart 43 = .ok (.getfield 15, 3) := by decide +kernel
theorem dX1_timesApart_46 : decode cX1_timesApart 46 = .ok (.iadd, 1) := by decide +kernel
theorem dX1_timesApart_47 : decode cX1_timesApart 47 = .ok (.istore_n 3, 1) := by decide +kernel
theorem dX1_timesApart_48 : decode cX1_timesApart 48 = .ok (.iinc 4 1, 3) := by decide +kernel
theorem dX1_timesApart_51 : decode cX1_timesApart 51 = .ok (.goto (-44), 3) := by decide +kernel
theorem dX1_timesApart_54 : decode cX1_timesApart 54 = .ok (.iload_n 2, 1) := by decide +kernel
theorem dX1_timesApart_55 : decode cX1_timesApart 55 = .ok (.ireturn, 1) := by decide +kernel
theorem dX2_init_0 : decode cX2_init 0 = .ok (.aload_n 0, 1) := by decide +kernel
theorem dX2_init_1 : decode cX2_init 1 = .ok (.invokespecial 1, 3) := by decide +kernel
theorem dX2_init_4 : decode cX2_init 4 = .ok (.aload_n 0, 1) := by decide +kernel
theorem dX2_init_5 : decode cX2_init 5 = .ok (.iconst 4, 1) := by decide +kernel
theorem dX2_init_6 : decode cX2_init 6 = .ok (.anewarray 9, 3) := by decide +kernel
theorem dX2_init_9 : decode cX2_init 9 = .ok (.putfield 11, 3) := by decide +kernel
theorem dX2_init_12 : decode cX2_init 12 = .ok (.aload_n 0, 1) := by decide +kernel
theorem dX2_init_13 : decode cX2_init 13 = .ok (.iconst 2, 1) := by decide +kernel
theorem dX2_init_14 : decode cX2_init 14 = .ok (.anewarray 9, 3) := by decide +kernel
theorem dX2_init_17 : decode cX2_init 17 = .ok (.putfield 15, 3) := by decide +kernel
theorem dX2_init_20 : decode cX2_init 20 = .ok (.aload_n 0, 1) := by decide +kernel
theorem dX2_init_21 : decode cX2_init 21 = .ok (.bipush 100, 2) := by decide +kernel
theorem dX2_init_23 : decode cX2_init 23 = .ok (.newarray .int, 2) := by decide +kernel
theorem dX2_init_25 : decode cX2_init 25 = .ok (.putfield 18, 3) := by decide +kernel
theorem dX2_init_28 : decode cX2_init 28 = .ok (.aload_n 0, 1) := by decide +kernel
theorem dX2_init_29 : decode cX2_init 29 = .ok (.new 9, 3) := by decide +kernel
theorem dX2_init_32 : decode cX2_init 32 = .ok (.dup, 1) := by decide +kernel
theorem dX2_init_33 : decode cX2_init 33 = .ok (.bipush 60, 2) := by decide +kernel
theorem dX2_init_35 : decode cX2_init 35 = .ok (.newarray .int, 2) := by decide +kernel
theorem dX2_init_37 : decode cX2_init 37 = .ok (.invokespecial 22, 3) := by decide +kernel
theorem dX2_init_40 : decode cX2_init 40 = .ok (.putfield 25, 3) := by decide +kernel
theorem dX2_init_43 : decode cX2_init 43 = .ok (.aload_n 0, 1) := by decide +kernel
theorem dX2_init_44 : decode cX2_init 44 = .ok (.new 9, 3) := by decide +kernel
theorem dX2_init_47 : decode cX2_init 47 = .ok (.dup, 1) := by decide +kernel
theorem dX2_init_48 : decode cX2_init 48 = .ok (.bipush 60, 2) := by decide +kernel
theorem dX2_init_50 : decode cX2_init 50 = .ok (.newarray .int, 2) := by decide +kernel
theorem dX2_init_52 : decode cX2_init 52 = .ok (.invokespecial 22, 3) := by decide +kernel
theorem dX2_init_55 : decode cX2_init 55 = .ok (.putfield 29, 3) := by decide +kernel
theorem dX2_init_58 : decode cX2_init 58 = .ok (.aload_n 0, 1) := by decide +kernel
theorem dX2_init_59 : decode cX2_init 59 = .ok (.new 9, 3) := by decide +kernel
theorem dX2_init_62 : decode cX2_init 62 = .ok (.dup, 1) := by decide +kernel
theorem dX2_init_63 : decode cX2_init 63 = .ok (.bipush 12, 2) := by decide +kernel
theorem dX2_init_65 : decode cX2_init 65 = .ok (.newarray .int, 2) := by decide +kernel
theorem dX2_init_67 : decode cX2_init 67 = .ok (.invokespecial 22, 3) := by decide +kernel
theorem dX2_init_70 : decode cX2_init 70 = .ok (.putfield 32, 3) := by decide +kernel
theorem dX2_init_73 : decode cX2_init 73 = .ok (.aload_n 0, 1) := by decide +kernel
theorem dX2_init_74 : decode cX2_init 74 = .ok (.bipush 61, 2) := by decide +kernel
theorem dX2_init_76 : decode cX2_init 76 = .ok (.newarray .int, 2) := by decide +kernel
theorem dX2_init_78 : decode cX2_init 78 = .ok (.putfield 35, 3) := by decide +kernel
theorem dX2_init_81 : decode cX2_init 81 = .ok (.iconst 0, 1) := by decide +kernel
theorem dX2_init_82 : decode cX2_init 82 = .ok (.istore_n 1, 1) := by decide +kernel
theorem dX2_init_83 : decode cX2_init 83 = .ok (.iload_n 1, 1) := by decide +kernel
theorem dX2_init_84 : decode cX2_init 84 = .ok (.iconst 4, 1) := by decide +kernel
theorem dX2_init_85 : decode cX2_init 85 = .ok (.if_icmp .ge 26, 3) := by decide +kernel
theorem dX2_init_88 : decode cX2_init 88 = .ok (.aload_n 0, 1) := by decide +kernel
theorem dX2_init_89 : decode cX2_init 89 = .ok (.getfield 11, 3) := by decide +kernel
theorem dX2_init_92 : decode cX2_init 92 = .ok (.iload_n 1, 1) := by decide +kernel
theorem dX2_init_93 : decode cX2_init 93 = .ok (.new 9, 3) := by decide +kernel
theorem dX2_init_96 : decode cX2_init 96 = .ok (.dup, 1) := by decide +kernel
theorem dX2_init_97 : decode cX2_init 97 = .ok (.bipush 60, 2) := by decide +kernel
theorem dX2_init_99 : decode cX2_init 99 = .ok (.newarray .int, 2) := by decide +kernel
theorem dX2_init_101 : decode cX2_init 101 = .ok (.invokespecial 22, 3) := by decide +kernel
theorem dX2_init_104 : decode cX2_init 104 = .ok (.aastore, 1) := by decide +kernel
theorem dX2_init_105 : decode cX2_init 105 = .ok (.iinc 1 1, 3) := by decide +kernel
theorem dX2_init_108 : decode cX2_init 108 = .ok (.goto (-25), 3) := by decide +kernel
theorem dX2_init_111 : decode cX2_init 111 = .ok (.iconst 0, 1) := by decide +kernel
theorem dX2_init_112 : decode cX2_init 112 = .ok (.istore_n 1, 1) := by decide +kernel
theorem dX2_init_113 : decode cX2_init 113 = .ok (.iload_n 1, 1) := by decide +kernel
theorem dX2_init_114 : decode cX2_init 114 = .ok (.iconst 2, 1) := by decide +kernel
theorem dX2_init_115 : decode cX2_init 115 = .ok (.if_icmp .ge 26, 3) := by decide +kernel
theorem dX2_init_118 : decode cX2_init 118 = .ok (.aload_n 0, 1) := by decide +kernel
theorem dX2_init_119 : decode cX2_init 119 = .ok (.getfield 15, 3) := by decide +kernel
theorem dX2_init_122 : decode cX2_init 122 = .ok (.iload_n 1, 1) := by decide +kernel
theorem dX2_init_123 : decode cX2_init 123 = .ok (.new 9, 3) := by decide +kernel
theorem dX2_init_126 : decode cX2_init 126 = .ok (.dup, 1) := by decide +kernel
theorem dX2_init_127 : decode cX2_init 127 = .ok (.bipush 12, 2) := by decide +kernel
theorem dX2_init_129 : decode cX2_init 129 = .ok (.newarray .int, 2) := by decide +kernel
theorem dX2_init_131 : decode cX2_init 131 = .ok (.invokespecial 22, 3) := by decide +kernel
theorem dX2_init_134 : decode cX2_init 134 = .ok (.aastore, 1) := by decide +kernel
theorem dX2_init_135 : decode cX2_init 135 = .ok (.iinc 1 1, 3) := by decide +kernel
theorem dX2_init_138 : decode cX2_init 138 = .ok (.goto (-25), 3) := by decide +kernel
theorem dX2_init_141 : decode cX2_init 141 = .ok (.return_, 1) := by decide +kernel
theorem dX2_add_0 : decode cX2_add 0 = .ok (.aload_n 0, 1) := by decide +kernel
theorem dX2_add_1 : decode cX2_add 1 = .ok (.iload_n 1, 1) := by decide +kernel
theorem dX2_add_2 : decode cX2_add 2 = .ok (.invokevirtual 38, 3) := by decide +kernel
theorem dX2_add_5 : decode cX2_add 5 = .ok (.astore_n 3, 1) := by decide +kernel
theorem dX2_add_6 : decode cX2_add 6 = .ok (.iload_n 2, 1) := by decide +kernel
theorem dX2_add_7 : decode cX2_add 7 = .ok (.invokestatic 42, 3) := by decide +kernel
theorem dX2_add_10 : decode cX2_add 10 = .ok (.aload_n 3, 1) := by decide +kernel
theorem dX2_add_11 : decode cX2_add 11 = .ok (.iconst 1, 1) := by decide +kernel
theorem dX2_add_12 : decode cX2_add 12 = .ok (.invokestatic 46, 3) := by decide +kernel
theorem dX2_add_15 : decode cX2_add 15 = .ok (.aload_n 3, 1) := by decide +kernel
theorem dX2_add_16 : decode cX2_add 16 = .ok (.iload_n 2, 1) := by decide +kernel
theorem dX2_add_17 : decode cX2_add 17 = .ok (.invokevirtual 50, 3) := by decide +kernel
theorem dX2_add_20 : decode cX2_add 20 = .ok (.aload_n 3, 1) := by decide +kernel
theorem dX2_add_21 : decode cX2_add 21 = .ok (.getfield 53, 3) := by decide +kernel
theorem dX2_add_24 : decode cX2_add 24 = .ok (.ireturn, 1) := by decide +kernel
theorem dX2_addMany_0 : decode cX2_addMany 0 = .ok (.aload_n 0, 1) := by decide +kernel
theorem dX2_addMany_1 : decode cX2_addMany 1 = .ok (.iload_n 1, 1) := by decide +kernel
theorem dX2_addMany_2 : decode cX2_addMany 2 = .ok (.invokevirtual 38, 3) := by decide +kernel
theorem dX2_addMany_5 : decode cX2_addMany 5 = .ok (.astore 4, 2) := by decide +kernel
theorem dX2_addMany_7 : decode cX2_addMany 7 = .ok (.iload_n 2, 1) := by decide +kernel
theorem dX2_addMany_8 : decode cX2_addMany 8 = .ok (.invokestatic 42, 3) := by decide +kernel
theorem dX2_addMany_11 : decode cX2_addMany 11 = .ok (.iload_n 3, 1) := by decide +kernel
theorem dX2_addMany_12 : decode cX2_addMany 12 = .ok (.invokestatic 57, 3) := by decide +kernel
theorem dX2_addMany_15 : decode cX2_addMany 15 = .ok (.aload 4, 2) := by decide +kernel
theorem dX2_addMany_17 : decode cX2_addMany 17 = .ok (.iload_n 3, 1) := by decide +kernel
theorem dX2_addMany_18 : decode cX2_addMany 18 = .ok (.invokestatic 46, 3) := by decide +kernel
theorem dX2_addMany_21 : decode cX2_addMany 21 = .ok (.iconst 0, 1) := by decide +kernel
theorem dX2_addMany_22 : decode cX2_addMany 22 = .ok (.istore 5, 2) := by decide +kernel
theorem dX2_addMany_24 : decode cX2_addMany 24 = .ok (.iload 5, 2) := by decide +kernel
theorem dX2_addMany_26 : decode cX2_addMany 26 = .ok (.iload_n 3, 1) := by decide +kernel
theorem dX2_addMany_27 : decode cX2_addMany 27 = .ok (.if_icmp .ge 15, 3) := by decide +kernel
theorem dX2_addMany_30 : decode cX2_addMany 30 = .ok (.aload 4, 2) := by decide +kernel
theorem dX2_addMany_32 : decode cX2_addMany 32 = .ok (.iload_n 2, 1) := by decide +kernel
theorem dX2_addMany_33 : decode cX2_addMany 33 = .ok (.invokevirtual 50, 3) := by decide +kernel
theorem dX2_addMany_36 : decode cX2_addMany 36 = .ok (.iinc 5 1, 3) := by decide +kernel
theorem dX2_addMany_39 : decode cX2_addMany 39 = .ok (.goto (-15), 3) := by decide +kernel
theorem dX2_addMany_42 : decode cX2_addMany 42 = .ok (.aload 4, 2) := by decide +kernel
theorem dX2_addMany_44 : decode cX2_addMany 44 = .ok (.getfield 53, 3) := by decide +kernel
theorem dX2_addMany_47 : decode cX2_addMany 47 = .ok (.ireturn, 1) := by decide +kernel
theorem dX2_scatter_0 : decode cX2_scatter 0 = .ok (.aload_n 0, 1) := by decide +kernel
theorem dX2_scatter_1 : decode cX2_scatter 1 = .ok (.iload_n 1, 1) := by decide +kernel
theorem dX2_scatter_2 : decode cX2_scatter 2 = .ok (.invokevirtual 38, 3) := by decide +kernel
theorem dX2_scatter_5 : decode cX2_scatter 5 = .ok (.astore 5, 2) := by decide +kernel
theorem dX2_scatter_7 : decode cX2_scatter 7 = .ok (.iload_n 2, 1) := by decide +kernel
theorem dX2_scatter_8 : decode cX2_scatter 8 = .ok (.iconst 0, 1) := by decide +kernel
theorem dX2_scatter_9 : decode cX2_scatter 9 = .ok (.bipush 60, 2) := by decide +kernel
theorem dX2_scatter_11 : decode cX2_scatter 11 = .ok (.invokestatic 60, 3) := by decide +kernel
theorem dX2_scatter_14 : decode cX2_scatter 14 = .ok (.iload_n 3, 1) := by decide +kernel
theorem dX2_scatter_15 : decode cX2_scatter 15 = .ok (.iconst 1, 1) := by decide +kernel
theorem dX2_scatter_16 : decode cX2_scatter 16 = .ok (.bipush 100, 2) := by decide +kernel
theorem dX2_scatter_18 : decode cX2_scatter 18 = .ok (.invokestatic 60, 3) := by decide +kernel
theorem dX2_scatter_21 : decode cX2_scatter 21 = .ok (.iload 4, 2) := by decide +kernel
theorem dX2_scatter_23 : decode cX2_scatter 23 = .ok (.invokestatic 57, 3) := by decide +kernel
theorem dX2_scatter_26 : decode cX2_scatter 26 = .ok (.aload 5, 2) := by decide +kernel
theorem dX2_scatter_28 : decode cX2_scatter 28 = .ok (.iload_n 2, 1) := by decide +kernel
theorem dX2_scatter_29 : decode cX2_scatter 29 = .ok (.invokestatic 46, 3) := by decide +kernel
theorem dX2_scatter_32 : decode cX2_scatter 32 = .ok (.iload 4, 2) := by decide +kernel
theorem dX2_scatter_34 : decode cX2_scatter 34 = .ok (.i2l, 1) := by decide +kernel
theorem dX2_scatter_35 : decode cX2_scatter 35 = .ok (.lstore 6, 2) := by decide +kernel
theorem dX2_scatter_37 : decode cX2_scatter 37 = .ok (.iconst 0, 1) := by decide +kernel
theorem dX2_scatter_38 : decode cX2_scatter 38 = .ok (.istore 8, 2) := by decide +kernel
theorem dX2_scatter_40 : decode cX2_scatter 40 = .ok (.iload 8, 2) := by decide +kernel
theorem dX2_scatter_42 : decode cX2_scatter 42 = .ok (.iload_n 2, 1) := by decide +kernel
theorem dX2_scatter_43 : decode cX2_scatter 43 = .ok (.if_icmp .ge 40, 3) := by decide +kernel
theorem dX2_scatter_46 : decode cX2_scatter 46 = .ok (.lload 6, 2) := by decide +kernel
theorem dX2_scatter_48 : decode cX2_scatter 48 = .ok (.ldc2_w 64, 3) := by decide +kernel
theorem dX2_scatter_51 : decode cX2_scatter 51 = .ok (.lmul, 1) := by decide +kernel
theorem dX2_scatter_52 : decode cX2_scatter 52 = .ok (.ldc2_w 66, 3) := by decide +kernel
theorem dX2_scatter_55 : decode cX2_scatter 55 = .ok (.ladd, 1) := by decide +kernel
theorem dX2_scatter_56 : decode cX2_scatter 56 = .ok (.ldc2_w 68, 3) := by decide +kernel
theorem dX2_scatter_59 : decode cX2_scatter 59 = .ok (.land, 1) := by decide +kernel
theorem dX2_scatter_60 : decode cX2_scatter 60 = .ok (.lstore 6, 2) := by decide +kernel
theorem dX2_scatter_62 : decode cX2_scatter 62 = .ok (.aload 5, 2) := by decide +kernel
theorem dX2_scatter_64 : decode cX2_scatter 64 = .ok (.lload 6, 2) := by decide +kernel
theorem dX2_scatter_66 : decode cX2_scatter 66 = .ok (.ldc2_w 70, 3) := by decide +kernel
theorem dX2_scatter_69 : decode cX2_scatter 69 = .ok (.ldiv, 1) := by decide +kernel
theorem dX2_scatter_70 : decode cX2_scatter 70 = .ok (.iload_n 3, 1) := by decide +kernel
theorem dX2_scatter_71 : decode cX2_scatter 71 = .ok (.i2l, 1) := by decide +kernel
theorem dX2_scatter_72 : decode cX2_scatter 72 = .ok (.lrem, 1) := by decide +kernel
theorem dX2_scatter_73 : decode cX2_scatter 73 = .ok (.l2i, 1) := by decide +kernel
theorem dX2_scatter_74 : decode cX2_scatter 74 = .ok (.invokevirtual 50, 3) := by decide +kernel
theorem dX2_scatter_77 : decode cX2_scatter 77 = .ok (.iinc 8 1, 3) := by decide +kernel
theorem dX2_scatter_80 : decode cX2_scatter 80 = .ok (.goto (-40), 3) := by decide +kernel
theorem dX2_scatter_83 : decode cX2_scatter 83 = .ok (.aload 5, 2) := by decide +kernel
theorem dX2_scatter_85 : decode cX2_scatter 85 = .ok (.getfield 53, 3) := by decide +kernel
theorem dX2_scatter_88 : decode cX2_scatter 88 = .ok (.ireturn, 1) := by decide +kernel
theorem dX2_insert_0 : decode cX2_insert 0 = .ok (.aload_n 0, 1) := by decide +kernel
theorem dX2_insert_1 : decode cX2_insert 1 = .ok (.iload_n 1, 1) := by decide +kernel
theorem dX2_insert_2 : decode cX2_insert 2 = .ok (.invokevirtual 38, 3) := by decide +kernel
theorem dX2_insert_5 : decode cX2_insert 5 = .ok (.astore 4, 2) := by decide +kernel
theorem dX2_insert_7 : decode cX2_insert 7 = .ok (.iload_n 3, 1) := by decide +kernel
theorem dX2_insert_8 : decode cX2_insert 8 = .ok (.invokestatic 42, 3) := by decide +kernel
theorem dX2_insert_11 : decode cX2_insert 11 = .ok (.aload 4, 2) := by decide +kernel
theorem dX2_insert_13 : decode cX2_insert 13 = .ok (.iload_n 2, 1) := by decide +kernel
theorem dX2_insert_14 : decode cX2_insert 14 = .ok (.aload 4, 2) := by decide +kernel
theorem dX2_insert_16 : decode cX2_insert 16 = .ok (.getfield 53, 3) := by decide +kernel
theorem dX2_insert_19 : decode cX2_insert 19 = .ok (.invokestatic 72, 3) := by decide +kernel
theorem dX2_insert_22 : decode cX2_insert 22 = .ok (.aload 4, 2) := by decide +kernel
theorem dX2_insert_24 : decode cX2_insert 24 = .ok (.iconst 1, 1) := by decide +kernel
theorem dX2_insert_25 : decode cX2_insert 25 = .ok (.invokestatic 46, 3) := by decide +kernel
theorem dX2_insert_28 : decode cX2_insert 28 = .ok (.aload 4, 2) := by decide +kernel
theorem dX2_insert_30 : decode cX2_insert 30 = .ok (.iload_n 2, 1) := by decide +kernel
theorem dX2_insert_31 : decode cX2_insert 31 = .ok (.iload_n 3, 1) := by decide +kernel
theorem dX2_insert_32 : decode cX2_insert 32 = .ok (.invokevirtual 76, 3) := by decide +kernel
theorem dX2_insert_35 : decode cX2_insert 35 = .ok (.aload 4, 2) := by decide +kernel
theorem dX2_insert_37 : decode cX2_insert 37 = .ok (.getfield 53, 3) := by decide +kernel
theorem dX2_insert_40 : decode cX2_insert 40 = .ok (.ireturn, 1) := by decide +kernel
theorem dX2_set_0 : decode cX2_set 0 = .ok (.aload_n 0, 1) := by decide +kernel
theorem dX2_set_1 : decode cX2_set 1 = .ok (.iload_n 1, 1) := by decide +kernel
theorem dX2_set_2 : decode cX2_set 2 = .ok (.invokevirtual 38, 3) := by decide +kernel
theorem dX2_set_5 : decode cX2_set 5 = .ok (.astore 4, 2) := by decide +kernel
theorem dX2_set_7 : decode cX2_set 7 = .ok (.aload 4, 2) := by decide +kernel
theorem dX2_set_9 : decode cX2_set 9 = .ok (.iload_n 2, 1) := by decide +kernel
theorem dX2_set_10 : decode cX2_set 10 = .ok (.invokestatic 80, 3) := by decide +kernel
theorem dX2_set_13 : decode cX2_set 13 = .ok (.iload_n 3, 1) := by decide +kernel
theorem dX2_set_14 : decode cX2_set 14 = .ok (.invokestatic 42, 3) := by decide +kernel
theorem dX2_set_17 : decode cX2_set 17 = .ok (.aload 4, 2) := by decide +kernel
theorem dX2_set_19 : decode cX2_set 19 = .ok (.getfield 83, 3) := by decide +kernel
theorem dX2_set_22 : decode cX2_set 22 = .ok (.iload_n 2, 1) := by decide +kernel
theorem dX2_set_23 : decode cX2_set 23 = .ok (.iaload, 1) := by decide +kernel
theorem dX2_set_24 : decode cX2_set 24 = .ok (.istore 5, 2) := by decide +kernel
theorem dX2_set_26 : decode cX2_set 26 = .ok (.aload 4, 2) := by decide +kernel
theorem dX2_set_28 : decode cX2_set 28 = .ok (.getfield 83, 3) := by decide +kernel
theorem dX2_set_31 : decode cX2_set 31 = .ok (.iload_n 2, 1) := by decide +kernel
theorem dX2_set_32 : decode cX2_set 32 = .ok (.iload_n 3, 1) := by decide +kernel
theorem dX2_set_33 : decode cX2_set 33 = .ok (.iastore, 1) := by decide +kernel
theorem dX2_set_34 : decode cX2_set 34 = .ok (.iload 5, 2) := by decide +kernel
theorem dX2_set_36 : decode cX2_set 36 = .ok (.ireturn, 1) := by decide +kernel
theorem dX2_remove_0 : decode cX2_remove 0 = .ok (.aload_n 0, 1) := by decide +kernel
theorem dX2_remove_1 : decode cX2_remove 1 = .ok (.iload_n 1, 1) := by decide +kernel
theorem dX2_remove_2 : decode cX2_remove 2 = .ok (.invokevirtual 38, 3) := by decide +kernel
theorem dX2_remove_5 : decode cX2_remove 5 = .ok (.astore_n 3, 1) := by decide +kernel
theorem dX2_remove_6 : decode cX2_remove 6 = .ok (.aload_n 3, 1) := by decide +kernel
theorem dX2_remove_7 : decode cX2_remove 7 = .ok (.iload_n 2, 1) := by decide +kernel
theorem dX2_remove_8 : decode cX2_remove 8 = .ok (.invokestatic 80, 3) := by decide +kernel
theorem dX2_remove_11 : decode cX2_remove 11 = .ok (.aload_n 3, 1) := by decide +kernel
theorem dX2_remove_12 : decode cX2_remove 12 = .ok (.getfield 83, 3) := by decide +kernel
theorem dX2_remove_15 : decode cX2_remove 15 = .ok (.iload_n 2, 1) := by decide +kernel
theorem dX2_remove_16 : decode cX2_remove 16 = .ok (.iaload, 1) := by decide +kernel
theorem dX2_remove_17 : decode cX2_remove 17 = .ok (.istore 4, 2) := by decide +kernel
theorem dX2_remove_19 : decode cX2_remove 19 = .ok (.aload_n 3, 1) := by decide +kernel
theorem dX2_remove_20 : decode cX2_remove 20 = .ok (.iload_n 2, 1) := by decide +kernel
theorem dX2_remove_21 : decode cX2_remove 21 = .ok (.iload_n 2, 1) := by decide +kernel
theorem dX2_remove_22 : decode cX2_remove 22 = .ok (.iconst 1, 1) := by decide +kernel
theorem dX2_remove_23 : decode cX2_remove 23 = .ok (.iadd, 1) := by decide +kernel
theorem dX2_remove_24 : decode cX2_remove 24 = .ok (.invokevirtual 86, 3) := by decide +kernel
theorem dX2_remove_27 : decode cX2_remove 27 = .ok (.iload 4, 2) := by decide +kernel
theorem dX2_remove_29 : decode cX2_remove 29 = .ok (.ireturn, 1) := by decide +kernel
theorem dX2_cut_0 : decode cX2_cut 0 = .ok (.aload_n 0, 1) := by decide +kernel
theorem dX2_cut_1 : decode cX2_cut 1 = .ok (.iload_n 1, 1) := by decide +kernel
theorem dX2_cut_2 : decode cX2_cut 2 = .ok (.invokevirtual 38, 3) := by decide +kernel
theorem dX2_cut_5 : decode cX2_cut 5 = .ok (.astore 4, 2) := by decide +kernel
theorem dX2_cut_7 : decode cX2_cut 7 = .ok (.aload 4, 2) := by decide +kernel
theorem dX2_cut_9 : decode cX2_cut 9 = .ok (.iload_n 2, 1) := by decide +kernel
theorem dX2_cut_10 : decode cX2_cut 10 = .ok (.iload_n 3, 1) := by decide +kernel
theorem dX2_cut_11 : decode cX2_cut 11 = .ok (.invokestatic 72, 3) := by decide +kernel
theorem dX2_cut_14 : decode cX2_cut 14 = .ok (.aload 4, 2) := by decide +kernel
theorem dX2_cut_16 : decode cX2_cut 16 = .ok (.iload_n 2, 1) := by decide +kernel
theorem dX2_cut_17 : decode cX2_cut 17 = .ok (.iload_n 3, 1) := by decide +kernel
theorem dX2_cut_18 : decode cX2_cut 18 = .ok (.invokevirtual 86, 3) := by decide +kernel
theorem dX2_cut_21 : decode cX2_cut 21 = .ok (.aload 4, 2) := by decide +kernel
theorem dX2_cut_23 : decode cX2_cut 23 = .ok (.getfield 53, 3) := by decide +kernel
theorem dX2_cut_26 : decode cX2_cut 26 = .ok (.ireturn, 1) := by decide +kernel
theorem dX2_size_0 : decode cX2_size 0 = .ok (.aload_n 0, 1) := by decide +kernel
theorem dX2_size_1 : decode cX2_size 1 = .ok (.iload_n 1, 1) := by decide +kernel
theorem dX2_size_2 : decode cX2_size 2 = .ok (.invokevirtual 38, 3) := by decide +kernel
theorem dX2_size_5 : decode cX2_size 5 = .ok (.getfield 53, 3) := by decide +kernel
theorem dX2_size_8 : decode cX2_size 8 = .ok (.ireturn, 1) := by decide +kernel
theorem dX2_at_0 : decode cX2_at 0 = .ok (.aload_n 0, 1) := by decide +kernel
theorem dX2_at_1 : decode cX2_at 1 = .ok (.iload_n 1, 1) := by decide +kernel
theorem dX2_at_2 : decode cX2_at 2 = .ok (.invokevirtual 38, 3) := by decide +kernel
theorem dX2_at_5 : decode cX2_at 5 = .ok (.astore_n 3, 1) := by decide +kernel
theorem dX2_at_6 : decode cX2_at 6 = .ok (.aload_n 3, 1) := by decide +kernel
theorem dX2_at_7 : decode cX2_at 7 = .ok (.iload_n 2, 1) := by decide +kernel
theorem dX2_at_8 : decode cX2_at 8 = .ok (.invokestatic 80, 3) := by decide +kernel
theorem dX2_at_11 : decode cX2_at 11 = .ok (.aload_n 3, 1) := by decide +kernel
theorem dX2_at_12 : decode cX2_at 12 = .ok (.getfield 83, 3) := by decide +kernel
theorem dX2_at_15 : decode cX2_at 15 = .ok (.iload_n 2, 1) := by decide +kernel
theorem dX2_at_16 : decode cX2_at 16 = .ok (.iaload, 1) := by decide +kernel
theorem dX2_at_17 : decode cX2_at 17 = .ok (.ireturn, 1) := by decide +kernel
theorem dX2_digest_0 : decode cX2_digest 0 = .ok (.aload_n 0, 1) := by decide +kernel
theorem dX2_digest_1 : decode cX2_digest 1 = .ok (.iload_n 1, 1) := by decide +kernel
theorem dX2_digest_2 : decode cX2_digest 2 = .ok (.invokevirtual 38, 3) := by decide +kernel
theorem dX2_digest_5 : decode cX2_digest 5 = .ok (.astore_n 2, 1) := by decide +kernel
theorem dX2_digest_6 : decode cX2_digest 6 = .ok (.bipush 7, 2) := by decide +kernel
theorem dX2_digest_8 : decode cX2_digest 8 = .ok (.istore_n 3, 1) := by decide +kernel
theorem dX2_digest_9 : decode cX2_digest 9 = .ok (.iconst 0, 1) := by decide +kernel
theorem dX2_digest_10 : decode cX2_digest 10 = .ok (.istore 4, 2) := by decide +kernel
theorem dX2_digest_12 : decode cX2_digest 12 = .ok (.iload 4, 2) := by decide +kernel
theorem dX2_digest_14 : decode cX2_digest 14 = .ok (.aload_n 2, 1) := by decide +kernel
theorem dX2_digest_15 : decode cX2_digest 15 = .ok (.getfield 53, 3) := by decide +kernel
theorem dX2_digest_18 : decode cX2_digest 18 = .ok (.if_icmp .ge 22, 3) := by decide +kernel
theorem dX2_digest_21 : decode cX2_digest 21 = .ok (.iload_n 3, 1) := by decide +kernel
theorem dX2_digest_22 : decode cX2_digest 22 = .ok (.bipush 31, 2) := by decide +kernel
theorem dX2_digest_24 : decode cX2_digest 24 = .ok (.imul, 1) := by decide +kernel
theorem dX2_digest_25 : decode cX2_digest 25 = .ok (.aload_n 2, 1) := by decide +kernel
theorem dX2_digest_26 : decode cX2_digest 26 = .ok (.getfield 83, 3) := by decide +kernel
theorem dX2_digest_29 : decode cX2_digest 29 = .ok (.iload 4, 2) := by decide +kernel
theorem dX2_digest_31 : decode cX2_digest 31 = .ok (.iaload, 1) := by decide +kernel
theorem dX2_digest_32 : decode cX2_digest 32 = .ok (.iadd, 1) := by decide +kernel
theorem dX2_digest_33 : decode cX2_digest 33 = .ok (.istore_n 3, 1) := by decide +kernel
theorem dX2_digest_34 : decode cX2_digest 34 = .ok (.iinc 4 1, 3) := by decide +kernel
theorem dX2_digest_37 : decode cX2_digest 37 = .ok (.goto (-25), 3) := by decide +kernel
theorem dX2_digest_40 : decode cX2_digest 40 = .ok (.iload_n 3, 1) := by decide +kernel
theorem dX2_digest_41 : decode cX2_digest 41 = .ok (.ireturn, 1) := by decide +kernel
theorem dX2_setRank_0 : decode cX2_setRank 0 = .ok (.iload_n 1, 1) := by decide +kernel
theorem dX2_setRank_1 : decode cX2_setRank 1 = .ok (.invokestatic 42, 3) := by decide +kernel
theorem dX2_setRank_4 : decode cX2_setRank 4 = .ok (.iload_n 2, 1) := by decide +kernel
theorem dX2_setRank_5 : decode cX2_setRank 5 = .ok (.bipush (-9), 2) := by decide +kernel
theorem dX2_setRank_7 : decode cX2_setRank 7 = .ok (.bipush 9, 2) := by decide +kernel
theorem dX2_setRank_9 : decode cX2_setRank 9 = .ok (.invokestatic 60, 3) := by decide +kernel
theorem dX2_setRank_12 : decode cX2_setRank 12 = .ok (.aload_n 0, 1) := by decide +kernel
theorem dX2_setRank_13 : decode cX2_setRank 13 = .ok (.getfield 18, 3) := by decide +kernel
theorem dX2_setRank_16 : decode cX2_setRank 16 = .ok (.iload_n 1, 1) := by decide +kernel
theorem dX2_setRank_17 : decode cX2_setRank 17 = .ok (.iaload, 1) := by decide +kernel
theorem dX2_setRank_18 : decode cX2_setRank 18 = .ok (.istore_n 3, 1) := by decide +kernel
theorem dX2_setRank_19 : decode cX2_setRank 19 = .ok (.aload_n 0, 1) := by decide +kernel
theorem dX2_setRank_20 : decode cX2_setRank 20 = .ok (.getfield 18, 3) := by decide +kernel
theorem dX2_setRank_23 : decode cX2_setRank 23 = .ok (.iload_n 1, 1) := by decide +kernel
theorem dX2_setRank_24 : decode cX2_setRank 24 = .ok (.iload_n 2, 1) := by decide +kernel
theorem dX2_setRank_25 : decode cX2_setRank 25 = .ok (.iastore, 1) := by decide +kernel
theorem dX2_setRank_26 : decode cX2_setRank 26 = .ok (.iload_n 3, 1) := by decide +kernel
theorem dX2_setRank_27 : decode cX2_setRank 27 = .ok (.ireturn, 1) := by decide +kernel
theorem dX2_say_0 : decode cX2_say 0 = .ok (.aload_n 0, 1) := by decide +kernel
theorem dX2_say_1 : decode cX2_say 1 = .ok (.iload_n 1, 1) := by decide +kernel
theorem dX2_say_2 : decode cX2_say 2 = .ok (.invokevirtual 89, 3) := by decide +kernel
theorem dX2_say_5 : decode cX2_say 5 = .ok (.astore_n 3, 1) := by decide +kernel
theorem dX2_say_6 : decode cX2_say 6 = .ok (.iload_n 2, 1) := by decide +kernel
theorem dX2_say_7 : decode cX2_say 7 = .ok (.invokestatic 42, 3) := by decide +kernel
theorem dX2_say_10 : decode cX2_say 10 = .ok (.aload_n 3, 1) := by decide +kernel
theorem dX2_say_11 : decode cX2_say 11 = .ok (.iconst 1, 1) := by decide +kernel
theorem dX2_say_12 : decode cX2_say 12 = .ok (.invokestatic 46, 3) := by decide +kernel
theorem dX2_say_15 : decode cX2_say 15 = .ok (.aload_n 3, 1) := by decide +kernel
theorem dX2_say_16 : decode cX2_say 16 = .ok (.iload_n 2, 1) := by decide +kernel
theorem dX2_say_17 : decode cX2_say 17 = .ok (.invokevirtual 50, 3) := by decide +kernel
theorem dX2_say_20 : decode cX2_say 20 = .ok (.aload_n 3, 1) := by decide +kernel
theorem dX2_say_21 : decode cX2_say 21 = .ok (.getfield 53, 3) := by decide +kernel
theorem dX2_say_24 : decode cX2_say 24 = .ok (.ireturn, 1) := by decide +kernel
theorem dX2_quote_0 : decode cX2_quote 0 = .ok (.aload_n 0, 1) := by decide +kernel
theorem dX2_quote_1 : decode cX2_quote 1 = .ok (.iload_n 1, 1) := by decide +kernel
theorem dX2_quote_2 : decode cX2_quote 2 = .ok (.invokevirtual 89, 3) := by decide +kernel
theorem dX2_quote_5 : decode cX2_quote 5 = .ok (.astore 5, 2) := by decide +kernel
theorem dX2_quote_7 : decode cX2_quote 7 = .ok (.aload_n 0, 1) := by decide +kernel
theorem dX2_quote_8 : decode cX2_quote 8 = .ok (.iload_n 2, 1) := by decide +kernel
theorem dX2_quote_9 : decode cX2_quote 9 = .ok (.invokevirtual 38, 3) := by decide +kernel
theorem dX2_quote_12 : decode cX2_quote 12 = .ok (.astore 6, 2) := by decide +kernel
theorem dX2_quote_14 : decode cX2_quote 14 = .ok (.aload 6, 2) := by decide +kernel
theorem dX2_quote_16 : decode cX2_quote 16 = .ok (.iload_n 3, 1) := by decide +kernel
theorem dX2_quote_17 : decode cX2_quote 17 = .ok (.iload 4, 2) := by decide +kernel
theorem dX2_quote_19 : decode cX2_quote 19 = .ok (.invokestatic 72, 3) := by decide +kernel
theorem dX2_quote_22 : decode cX2_quote 22 = .ok (.iload 4, 2) := by decide +kernel
theorem dX2_quote_24 : decode cX2_quote 24 = .ok (.iload_n 3, 1) := by decide +kernel
theorem dX2_quote_25 : decode cX2_quote 25 = .ok (.isub, 1) := by decide +kernel
theorem dX2_quote_26 : decode cX2_quote 26 = .ok (.bipush 12, 2) := by decide +kernel
theorem dX2_quote_28 : decode cX2_quote 28 = .ok (.if_icmp .le 13, 3) := by decide +kernel
theorem dX2_quote_31 : decode cX2_quote 31 = .ok (.new 92, 3) := by decide +kernel
theorem dX2_quote_34 : decode cX2_quote 34 = .ok (.dup, 1) := by decide +kernel
theorem dX2_quote_35 : decode cX2_quote 35 = .ok (.ldc 94, 2) := by decide +kernel
theorem dX2_quote_37 : decode cX2_quote 37 = .ok (.invokespecial 96, 3) := by decide +kernel
theorem dX2_quote_40 : decode cX2_quote 40 = .ok (.athrow, 1) := by decide +kernel
theorem dX2_quote_41 : decode cX2_quote 41 = .ok (.aload 5, 2) := by decide +kernel
theorem dX2_quote_43 : decode cX2_quote 43 = .ok (.iconst 0, 1) := by decide +kernel
theorem dX2_quote_44 : decode cX2_quote 44 = .ok (.putfield 53, 3) := by decide +kernel
theorem dX2_quote_47 : decode cX2_quote 47 = .ok (.iload_n 3, 1) := by decide +kernel
theorem dX2_quote_48 : decode cX2_quote 48 = .ok (.istore 7, 2) := by decide +kernel
theorem dX2_quote_50 : decode cX2_quote 50 = .ok (.iload 7, 2) := by decide +kernel
theorem dX2_quote_52 : decode cX2_quote 52 = .ok (.iload 4, 2) := by decide +kernel
theorem dX2_quote_54 : decode cX2_quote 54 = .ok (.if_icmp .ge 22, 3) := by decide +kernel
theorem dX2_quote_57 : decode cX2_quote 57 = .ok (.aload 5, 2) := by decide +kernel
theorem dX2_quote_59 : decode cX2_quote 59 = .ok (.aload 6, 2) := by decide +kernel
theorem dX2_quote_61 : decode cX2_quote 61 = .ok (.getfield 83, 3) := by decide +kernel
theorem dX2_quote_64 : decode cX2_quote 64 = .ok (.iload 7, 2) := by decide +kernel
theorem dX2_quote_66 : decode cX2_quote 66 = .ok (.iaload, 1) := by decide +kernel
theorem dX2_quote_67 : decode cX2_quote 67 = .ok (.invokevirtual 50, 3) := by decide +kernel
theorem dX2_quote_70 : decode cX2_quote 70 = .ok (.iinc 7 1, 3) := by decide +kernel
theorem dX2_quote_73 : decode cX2_quote 73 = .ok (.goto (-23), 3) := by decide +kernel
theorem dX2_quote_76 : decode cX2_quote 76 = .ok (.aload 5, 2) := by decide +kernel
theorem dX2_quote_78 : decode cX2_quote 78 = .ok (.getfield 53, 3) := by decide +kernel
theorem dX2_quote_81 : decode cX2_quote 81 = .ok (.ireturn, 1) := by decide +kernel
theorem dX2_hush_0 : decode cX2_hush 0 = .ok (.aload_n 0, 1) := by decide +kernel
theorem dX2_hush_1 : decode cX2_hush 1 = .ok (.iload_n 1, 1) := by decide +kernel
theorem dX2_hush_2 : decode cX2_hush 2 = .ok (.invokevirtual 89, 3) := by decide +kernel
theorem dX2_hush_5 : decode cX2_hush 5 = .ok (.astore_n 2, 1) := by decide +kernel
theorem dX2_hush_6 : decode cX2_hush 6 = .ok (.aload_n 2, 1) := by decide +kernel
theorem dX2_hush_7 : decode cX2_hush 7 = .ok (.getfield 53, 3) := by decide +kernel
theorem dX2_hush_10 : decode cX2_hush 10 = .ok (.istore_n 3, 1) := by decide +kernel
theorem dX2_hush_11 : decode cX2_hush 11 = .ok (.aload_n 2, 1) := by decide +kernel
theorem dX2_hush_12 : decode cX2_hush 12 = .ok (.iconst 0, 1) := by decide +kernel
theorem dX2_hush_13 : decode cX2_hush 13 = .ok (.putfield 53, 3) := by decide +kernel
theorem dX2_hush_16 : decode cX2_hush 16 = .ok (.iload_n 3, 1) := by decide +kernel
theorem dX2_hush_17 : decode cX2_hush 17 = .ok (.ireturn, 1) := by decide +kernel
theorem dX2_wordOf_0 : decode cX2_wordOf 0 = .ok (.aload_n 0, 1) := by decide +kernel
theorem dX2_wordOf_1 : decode cX2_wordOf 1 = .ok (.iload_n 1, 1) := by decide +kernel
theorem dX2_wordOf_2 : decode cX2_wordOf 2 = .ok (.invokevirtual 89, 3) := by decide +kernel
theorem dX2_wordOf_5 : decode cX2_wordOf 5 = .ok (.astore_n 3, 1) := by decide +kernel
theorem dX2_wordOf_6 : decode cX2_wordOf 6 = .ok (.aload_n 3, 1) := by decide +kernel
theorem dX2_wordOf_7 : decode cX2_wordOf 7 = .ok (.iload_n 2, 1) := by decide +kernel
theorem dX2_wordOf_8 : decode cX2_wordOf 8 = .ok (.invokestatic 80, 3) := by decide +kernel
theorem dX2_wordOf_11 : decode cX2_wordOf 11 = .ok (.aload_n 3, 1) := by decide +kernel
theorem dX2_wordOf_12 : decode cX2_wordOf 12 = .ok (.getfield 83, 3) := by decide +kernel
theorem dX2_wordOf_15 : decode cX2_wordOf 15 = .ok (.iload_n 2, 1) := by decide +kernel
theorem dX2_wordOf_16 : decode cX2_wordOf 16 = .ok (.iaload, 1) := by decide +kernel
theorem dX2_wordOf_17 : decode cX2_wordOf 17 = .ok (.ireturn, 1) := by decide +kernel
theorem dX2_find_0 : decode cX2_find 0 = .ok (.aload_n 0, 1) := by decide +kernel
theorem dX2_find_1 : decode cX2_find 1 = .ok (.iload_n 1, 1) := by decide +kernel
theorem dX2_find_2 : decode cX2_find 2 = .ok (.invokevirtual 38, 3) := by decide +kernel
theorem dX2_find_5 : decode cX2_find 5 = .ok (.astore_n 2, 1) := by decide +kernel
theorem dX2_find_6 : decode cX2_find 6 = .ok (.aload_n 2, 1) := by decide +kernel
theorem dX2_find_7 : decode cX2_find 7 = .ok (.aload_n 0, 1) := by decide +kernel
theorem dX2_find_8 : decode cX2_find 8 = .ok (.getfield 15, 3) := by decide +kernel
theorem dX2_find_11 : decode cX2_find 11 = .ok (.iconst 0, 1) := by decide +kernel
theorem dX2_find_12 : decode cX2_find 12 = .ok (.aaload, 1) := by decide +kernel
theorem dX2_find_13 : decode cX2_find 13 = .ok (.iconst 0, 1) := by decide +kernel
theorem dX2_find_14 : decode cX2_find 14 = .ok (.aload_n 2, 1) := by decide +kernel
theorem dX2_find_15 : decode cX2_find 15 = .ok (.getfield 53, 3) := by decide +kernel
theorem dX2_find_18 : decode cX2_find 18 = .ok (.invokevirtual 99, 3) := by decide +kernel
theorem dX2_find_21 : decode cX2_find 21 = .ok (.ireturn, 1) := by decide +kernel
theorem dX2_findLast_0 : decode cX2_findLast 0 = .ok (.aload_n 0, 1) := by decide +kernel
theorem dX2_findLast_1 : decode cX2_findLast 1 = .ok (.iload_n 1, 1) := by decide +kernel
theorem dX2_findLast_2 : decode cX2_findLast 2 = .ok (.invokevirtual 38, 3) := by decide +kernel
theorem dX2_findLast_5 : decode cX2_findLast 5 = .ok (.aload_n 0, 1) := by decide +kernel
theorem dX2_findLast_6 : decode cX2_findLast 6 = .ok (.getfield 15, 3) := by decide +kernel
theorem dX2_findLast_9 : decode cX2_findLast 9 = .ok (.iconst 0, 1) := by decide +kernel
theorem dX2_findLast_10 : decode cX2_findLast 10 = .ok (.aaload, 1) := by decide +kernel
theorem dX2_findLast_11 : decode cX2_findLast 11 = .ok (.invokevirtual 103, 3) := by decide +kernel
theorem dX2_findLast_14 : decode cX2_findLast 14 = .ok (.ireturn, 1) := by decide +kernel
theorem dX2_findIn_0 : decode cX2_findIn 0 = .ok (.aload_n 0, 1) := by decide +kernel
theorem dX2_findIn_1 : decode cX2_findIn 1 = .ok (.iload_n 1, 1) := by decide +kernel
theorem dX2_findIn_2 : decode cX2_findIn 2 = .ok (.invokevirtual 38, 3) := by decide +kernel
theorem dX2_findIn_5 : decode cX2_findIn 5 = .ok (.astore 4, 2) := by decide +kernel
theorem dX2_findIn_7 : decode cX2_findIn 7 = .ok (.aload 4, 2) := by decide +kernel
theorem dX2_findIn_9 : decode cX2_findIn 9 = .ok (.iload_n 2, 1) := by decide +kernel
theorem dX2_findIn_10 : decode cX2_findIn 10 = .ok (.iload_n 3, 1) := by decide +kernel
theorem dX2_findIn_11 : decode cX2_findIn 11 = .ok (.invokestatic 72, 3) := by decide +kernel
theorem dX2_findIn_14 : decode cX2_findIn 14 = .ok (.aload 4, 2) := by decide +kernel
theorem dX2_findIn_16 : decode cX2_findIn 16 = .ok (.aload_n 0, 1) := by decide +kernel
theorem dX2_findIn_17 : decode cX2_findIn 17 = .ok (.getfield 15, 3) := by decide +kernel
theorem dX2_findIn_20 : decode cX2_findIn 20 = .ok (.iconst 0, 1) := by decide +kernel
theorem dX2_findIn_21 : decode cX2_findIn 21 = .ok (.aaload, 1) := by decide +kernel
theorem dX2_findIn_22 : decode cX2_findIn 22 = .ok (.iload_n 2, 1) := by decide +kernel
theorem dX2_findIn_23 : decode cX2_findIn 23 = .ok (.iload_n 3, 1) := by decide +kernel
theorem dX2_findIn_24 : decode cX2_findIn 24 = .ok (.invokevirtual 99, 3) := by decide +kernel
theorem dX2_findIn_27 : decode cX2_findIn 27 = .ok (.ireturn, 1) := by decide +kernel
theorem dX2_count_0 : decode cX2_count 0 = .ok (.aload_n 0, 1) := by decide +kernel
theorem dX2_count_1 : decode cX2_count 1 = .ok (.iload_n 1, 1) := by decide +kernel
theorem dX2_count_2 : decode cX2_count 2 = .ok (.invokevirtual 38, 3) := by decide +kernel
theorem dX2_count_5 : decode cX2_count 5 = .ok (.astore_n 3, 1) := by decide +kernel
theorem dX2_count_6 : decode cX2_count 6 = .ok (.aload_n 0, 1) := by decide +kernel
theorem dX2_count_7 : decode cX2_count 7 = .ok (.getfield 15, 3) := by decide +kernel
theorem dX2_count_10 : decode cX2_count 10 = .ok (.iconst 0, 1) := by decide +kernel
theorem dX2_count_11 : decode cX2_count 11 = .ok (.aaload, 1) := by decide +kernel
theorem dX2_count_12 : decode cX2_count 12 = .ok (.astore 4, 2) := by decide +kernel
theorem dX2_count_14 : decode cX2_count 14 = .ok (.iload_n 2, 1) := by decide +kernel
theorem dX2_count_15 : decode cX2_count 15 = .ok (.ifCond .eq 12, 3) := by decide +kernel
theorem dX2_count_18 : decode cX2_count 18 = .ok (.aload_n 3, 1) := by decide +kernel
theorem dX2_count_19 : decode cX2_count 19 = .ok (.aload 4, 2) := by decide +kernel
theorem dX2_count_21 : decode cX2_count 21 = .ok (.invokevirtual 107, 3) := by decide +kernel
theorem dX2_count_24 : decode cX2_count 24 = .ok (.goto 9, 3) := by decide +kernel
theorem dX2_count_27 : decode cX2_count 27 = .ok (.aload_n 3, 1) := by decide +kernel
theorem dX2_count_28 : decode cX2_count 28 = .ok (.aload 4, 2) := by decide +kernel
theorem dX2_count_30 : decode cX2_count 30 = .ok (.invokevirtual 110, 3) := by decide +kernel
theorem dX2_count_33 : decode cX2_count 33 = .ok (.ireturn, 1) := by decide +kernel
theorem dX2_replace_0 : decode cX2_replace 0 = .ok (.aload_n 0, 1) := by decide +kernel
theorem dX2_replace_1 : decode cX2_replace 1 = .ok (.iload_n 1, 1) := by decide +kernel
theorem dX2_replace_2 : decode cX2_replace 2 = .ok (.invokevirtual 38, 3) := by decide +kernel
theorem dX2_replace_5 : decode cX2_replace 5 = .ok (.astore_n 2, 1) := by decide +kernel
theorem dX2_replace_6 : decode cX2_replace 6 = .ok (.aload_n 0, 1) := by decide +kernel
theorem dX2_replace_7 : decode cX2_replace 7 = .ok (.getfield 15, 3) := by decide +kernel
theorem dX2_replace_10 : decode cX2_replace 10 = .ok (.iconst 0, 1) := by decide +kernel
theorem dX2_replace_11 : decode cX2_replace 11 = .ok (.aaload, 1) := by decide +kernel
theorem dX2_replace_12 : decode cX2_replace 12 = .ok (.astore_n 3, 1) := by decide +kernel
theorem dX2_replace_13 : decode cX2_replace 13 = .ok (.aload_n 3, 1) := by decide +kernel
theorem dX2_replace_14 : decode cX2_replace 14 = .ok (.getfield 53, 3) := by decide +kernel
theorem dX2_replace_17 : decode cX2_replace 17 = .ok (.ifCond .ne 13, 3) := by decide +kernel
theorem dX2_replace_20 : decode cX2_replace 20 = .ok (.new 92, 3) := by decide +kernel
theorem dX2_replace_23 : decode cX2_replace 23 = .ok (.dup, 1) := by decide +kernel
theorem dX2_replace_24 : decode cX2_replace 24 = .ok (.ldc 113, 2) := by decide +kernel
theorem dX2_replace_26 : decode cX2_replace 26 = .ok (.invokespecial 96, 3) := by decide +kernel
theorem dX2_replace_29 : decode cX2_replace 29 = .ok (.athrow, 1) := by decide +kernel
theorem dX2_replace_30 : decode cX2_replace 30 = .ok (.aload_n 2, 1) := by decide +kernel
theorem dX2_replace_31 : decode cX2_replace 31 = .ok (.aload_n 3, 1) := by decide +kernel
theorem dX2_replace_32 : decode cX2_replace 32 = .ok (.invokevirtual 107, 3) := by decide +kernel
theorem dX2_replace_35 : decode cX2_replace 35 = .ok (.istore 4, 2) := by decide +kernel
theorem dX2_replace_37 : decode cX2_replace 37 = .ok (.aload_n 2, 1) := by decide +kernel
theorem dX2_replace_38 : decode cX2_replace 38 = .ok (.iload 4, 2) := by decide +kernel
theorem dX2_replace_40 : decode cX2_replace 40 = .ok (.aload_n 0, 1) := by decide +kernel
theorem dX2_replace_41 : decode cX2_replace 41 = .ok (.getfield 15, 3) := by decide +kernel
theorem dX2_replace_44 : decode cX2_replace 44 = .ok (.iconst 1, 1) := by decide +kernel
theorem dX2_replace_45 : decode cX2_replace 45 = .ok (.aaload, 1) := by decide +kernel
theorem dX2_replace_46 : decode cX2_replace 46 = .ok (.getfield 53, 3) := by decide +kernel
theorem dX2_replace_49 : decode cX2_replace 49 = .ok (.aload_n 3, 1) := by decide +kernel
theorem dX2_replace_50 : decode cX2_replace 50 = .ok (.getfield 53, 3) := by decide +kernel
theorem dX2_replace_53 : decode cX2_replace 53 = .ok (.isub, 1) := by decide +kernel
theorem dX2_replace_54 : decode cX2_replace 54 = .ok (.imul, 1) := by decide +kernel
theorem dX2_replace_55 : decode cX2_replace 55 = .ok (.invokestatic 46, 3) := by decide +kernel
theorem dX2_replace_58 : decode cX2_replace 58 = .ok (.aload_n 0, 1) := by decide +kernel
theorem dX2_replace_59 : decode cX2_replace 59 = .ok (.aload_n 2, 1) := by decide +kernel
theorem dX2_replace_60 : decode cX2_replace 60 = .ok (.invokevirtual 115, 3) := by decide +kernel
theorem dX2_replace_63 : decode cX2_replace 63 = .ok (.aload_n 2, 1) := by decide +kernel
theorem dX2_replace_64 : decode cX2_replace 64 = .ok (.aload_n 0, 1) := by decide +kernel
theorem dX2_replace_65 : decode cX2_replace 65 = .ok (.getfield 25, 3) := by decide +kernel
theorem dX2_replace_68 : decode cX2_replace 68 = .ok (.invokevirtual 119, 3) := by decide +kernel
theorem dX2_replace_71 : decode cX2_replace 71 = .ok (.iload 4, 2) := by decide +kernel
theorem dX2_replace_73 : decode cX2_replace 73 = .ok (.ireturn, 1) := by decide +kernel
theorem dX2_draftReplaced_0 : decode cX2_draftReplaced 0 = .ok (.aload_n 0, 1) := by decide +kernel
theorem dX2_draftReplaced_1 : decode cX2_draftReplaced 1 = .ok (.getfield 15, 3) := by decide +kernel
theorem dX2_draftReplaced_4 : decode cX2_draftReplaced 4 = .ok (.iconst 0, 1) := by decide +kernel
theorem dX2_draftReplaced_5 : decode cX2_draftReplaced 5 = .ok (.aaload, 1) := by decide +kernel
theorem dX2_draftReplaced_6 : decode cX2_draftReplaced 6 = .ok (.astore_n 2, 1) := by decide +kernel
theorem dX2_draftReplaced_7 : decode cX2_draftReplaced 7 = .ok (.aload_n 0, 1) := by decide +kernel
theorem dX2_draftReplaced_8 : decode cX2_draftReplaced 8 = .ok (.getfield 15, 3) := by decide +kernel
theorem dX2_draftReplaced_11 : decode cX2_draftReplaced 11 = .ok (.iconst 1, 1) := by decide +kernel
theorem dX2_draftReplaced_12 : decode cX2_draftReplaced 12 = .ok (.aaload, 1) := by decide +kernel
theorem dX2_draftReplaced_13 : decode cX2_draftReplaced 13 = .ok (.astore_n 3, 1) := by decide +kernel
theorem dX2_draftReplaced_14 : decode cX2_draftReplaced 14 = .ok (.aload_n 1, 1) := by decide +kernel
theorem dX2_draftReplaced_15 : decode cX2_draftReplaced 15 = .ok (.getfield 53, 3) := by decide +kernel
theorem dX2_draftReplaced_18 : decode cX2_draftReplaced 18 = .ok (.istore 4, 2) := by decide +kernel
theorem dX2_draftReplaced_20 : decode cX2_draftReplaced 20 = .ok (.iconst 0, 1) := by decide +kernel
theorem dX2_draftReplaced_21 : decode cX2_draftReplaced 21 = .ok (.istore 5, 2) := by decide +kernel
theorem dX2_draftReplaced_23 : decode cX2_draftReplaced 23 = .ok (.aload_n 0, 1) := by decide +kernel
theorem dX2_draftReplaced_24 : decode cX2_draftReplaced 24 = .ok (.getfield 25, 3) := by decide +kernel
theorem dX2_draftReplaced_27 : decode cX2_draftReplaced 27 = .ok (.iconst 0, 1) := by decide +kernel
theorem dX2_draftReplaced_28 : decode cX2_draftReplaced 28 = .ok (.putfield 53, 3) := by decide +kernel
theorem dX2_draftReplaced_31 : decode cX2_draftReplaced 31 = .ok (.iconst 0, 1) := by decide +kernel
theorem dX2_draftReplaced_32 : decode cX2_draftReplaced 32 = .ok (.istore 6, 2) := by decide +kernel
theorem dX2_draftReplaced_34 : decode cX2_draftReplaced 34 = .ok (.iload 6, 2) := by decide +kernel
theorem dX2_draftReplaced_36 : decode cX2_draftReplaced 36 = .ok (.iload 4, 2) := by decide +kernel
theorem dX2_draftReplaced_38 : decode cX2_draftReplaced 38 = .ok (.if_icmp .ge 63, 3) := by decide +kernel
theorem dX2_draftReplaced_41 : decode cX2_draftReplaced 41 = .ok (.iload 6, 2) := by decide +kernel
theorem dX2_draftReplaced_43 : decode cX2_draftReplaced 43 = .ok (.iload 5, 2) := by decide +kernel
theorem dX2_draftReplaced_45 : decode cX2_draftReplaced 45 = .ok (.if_icmp .ge 6, 3) := by decide +kernel
theorem dX2_draftReplaced_48 : decode cX2_draftReplaced 48 = .ok (.goto 47, 3) := by decide +kernel
theorem dX2_draftReplaced_51 : decode cX2_draftReplaced 51 = .ok (.aload_n 1, 1) := by decide +kernel
theorem dX2_draftReplaced_52 : decode cX2_draftReplaced 52 = .ok (.aload_n 2, 1) := by decide +kernel
theorem dX2_draftReplaced_53 : decode cX2_draftReplaced 53 = .ok (.iload 6, 2) := by decide +kernel
theorem dX2_draftReplaced_55 : decode cX2_draftReplaced 55 = .ok (.invokevirtual 122, 3) := by decide +kernel
theorem dX2_draftReplaced_58 : decode cX2_draftReplaced 58 = .ok (.ifCond .eq 23, 3) := by decide +kernel
theorem dX2_draftReplaced_61 : decode cX2_draftReplaced 61 = .ok (.aload_n 0, 1) := by decide +kernel
theorem dX2_draftReplaced_62 : decode cX2_draftReplaced 62 = .ok (.getfield 25, 3) := by decide +kernel
theorem dX2_draftReplaced_65 : decode cX2_draftReplaced 65 = .ok (.aload_n 3, 1) := by decide +kernel
theorem dX2_draftReplaced_66 : decode cX2_draftReplaced 66 = .ok (.invokevirtual 126, 3) := by decide +kernel
theorem dX2_draftReplaced_69 : decode cX2_draftReplaced 69 = .ok (.iload 6, 2) := by decide +kernel
theorem dX2_draftReplaced_71 : decode cX2_draftReplaced 71 = .ok (.aload_n 2, 1) := by decide +kernel
theorem dX2_draftReplaced_72 : decode cX2_draftReplaced 72 = .ok (.getfield 53, 3) := by decide +kernel
theorem dX2_draftReplaced_75 : decode cX2_draftReplaced 75 = .ok (.iadd, 1) := by decide +kernel
theorem dX2_draftReplaced_76 : decode cX2_draftReplaced 76 = .ok (.istore 5, 2) := by decide +kernel
theorem dX2_draftReplaced_78 : decode cX2_draftReplaced 78 = .ok (.goto 17, 3) := by decide +kernel
theorem dX2_draftReplaced_81 : decode cX2_draftReplaced 81 = .ok (.aload_n 0, 1) := by decide +kernel
theorem dX2_draftReplaced_82 : decode cX2_draftReplaced 82 = .ok (.getfield 25, 3) := by decide +kernel
theorem dX2_draftReplaced_85 : decode cX2_draftReplaced 85 = .ok (.aload_n 1, 1) := by decide +kernel
theorem dX2_draftReplaced_86 : decode cX2_draftReplaced 86 = .ok (.getfield 83, 3) := by decide +kernel
theorem dX2_draftReplaced_89 : decode cX2_draftReplaced 89 = .ok (.iload 6, 2) := by decide +kernel
theorem dX2_draftReplaced_91 : decode cX2_draftReplaced 91 = .ok (.iaload, 1) := by decide +kernel
theorem dX2_draftReplaced_92 : decode cX2_draftReplaced 92 = .ok (.invokevirtual 50, 3) := by decide +kernel
theorem dX2_draftReplaced_95 : decode cX2_draftReplaced 95 = .ok (.iinc 6 1, 3) := by decide +kernel
theorem dX2_draftReplaced_98 : decode cX2_draftReplaced 98 = .ok (.goto (-64), 3) := by decide +kernel
theorem dX2_draftReplaced_101 : decode cX2_draftReplaced 101 = .ok (.return_, 1) := by decide +kernel
theorem dX2_replaceWord_0 : decode cX2_replaceWord 0 = .ok (.aload_n 0, 1) := by decide +kernel
theorem dX2_replaceWord_1 : decode cX2_replaceWord 1 = .ok (.iload_n 1, 1) := by decide +kernel
theorem dX2_replaceWord_2 : decode cX2_replaceWord 2 = .ok (.invokevirtual 38, 3) := by decide +kernel
theorem dX2_replaceWord_5 : decode cX2_replaceWord 5 = .ok (.astore 4, 2) := by decide +kernel
theorem dX2_replaceWord_7 : decode cX2_replaceWord 7 = .ok (.iload_n 2, 1) := by decide +kernel
theorem dX2_replaceWord_8 : decode cX2_replaceWord 8 = .ok (.invokestatic 42, 3) := by decide +kernel
theorem dX2_replaceWord_11 : decode cX2_replaceWord 11 = .ok (.iload_n 3, 1) := by decide +kernel
theorem dX2_replaceWord_12 : decode cX2_replaceWord 12 = .ok (.invokestatic 42, 3) := by decide +kernel
theorem dX2_replaceWord_15 : decode cX2_replaceWord 15 = .ok (.iconst 0, 1) := by decide +kernel
theorem dX2_replaceWord_16 : decode cX2_replaceWord 16 = .ok (.istore 5, 2) := by decide +kernel
theorem dX2_replaceWord_18 : decode cX2_replaceWord 18 = .ok (.iconst 0, 1) := by decide +kernel
theorem dX2_replaceWord_19 : decode cX2_replaceWord 19 = .ok (.istore 6, 2) := by decide +kernel
theorem dX2_replaceWord_21 : decode cX2_replaceWord 21 = .ok (.iload 6, 2) := by decide +kernel
theorem dX2_replaceWord_23 : decode cX2_replaceWord 23 = .ok (.aload 4, 2) := by decide +kernel
theorem dX2_replaceWord_25 : decode cX2_replaceWord 25 = .ok (.getfield 53, 3) := by decide +kernel
theorem dX2_replaceWord_28 : decode cX2_replaceWord 28 = .ok (.if_icmp .ge 33, 3) := by decide +kernel
theorem dX2_replaceWord_31 : decode cX2_replaceWord 31 = .ok (.aload 4, 2) := by decide +kernel
theorem dX2_replaceWord_33 : decode cX2_replaceWord 33 = .ok (.getfield 83, 3) := by decide +kernel
theorem dX2_replaceWord_36 : decode cX2_replaceWord 36 = .ok (.iload 6, 2) := by decide +kernel
theorem dX2_replaceWord_38 : decode cX2_replaceWord 38 = .ok (.iaload, 1) := by decide +kernel
theorem dX2_replaceWord_39 : decode cX2_replaceWord 39 = .ok (.iload_n 2, 1) := by decide +kernel
theorem dX2_replaceWord_40 : decode cX2_replaceWord 40 = .ok (.if_icmp .ne 15, 3) := by decide +kernel
theorem dX2_replaceWord_43 : decode cX2_replaceWord 43 = .ok (.aload 4, 2) := by decide +kernel
theorem dX2_replaceWord_45 : decode cX2_replaceWord 45 = .ok (.getfield 83, 3) := by decide +kernel
theorem dX2_replaceWord_48 : decode cX2_replaceWord 48 = .ok (.iload 6, 2) := by decide +kernel
theorem dX2_replaceWord_50 : decode cX2_replaceWord 50 = .ok (.iload_n 3, 1) := by decide +kernel
theorem dX2_replaceWord_51 : decode cX2_replaceWord 51 = .ok (.iastore, 1) := by decide +kernel
theorem dX2_replaceWord_52 : decode cX2_replaceWord 52 = .ok (.iconst 1, 1) := by decide +kernel
theorem dX2_replaceWord_53 : decode cX2_replaceWord 53 = .ok (.istore 5, 2) := by decide +kernel
theorem dX2_replaceWord_55 : decode cX2_replaceWord 55 = .ok (.iinc 6 1, 3) := by decide +kernel
theorem dX2_replaceWord_58 : decode cX2_replaceWord 58 = .ok (.goto (-37), 3) := by decide +kernel
theorem dX2_replaceWord_61 : decode cX2_replaceWord 61 = .ok (.iload 5, 2) := by decide +kernel
theorem dX2_replaceWord_63 : decode cX2_replaceWord 63 = .ok (.ireturn, 1) := by decide +kernel
theorem dX2_frequency_0 : decode cX2_frequency 0 = .ok (.aload_n 0, 1) := by decide +kernel
theorem dX2_frequency_1 : decode cX2_frequency 1 = .ok (.iload_n 1, 1) := by decide +kernel
theorem dX2_frequency_2 : decode cX2_frequency 2 = .ok (.invokevirtual 38, 3) := by decide +kernel
theorem dX2_frequency_5 : decode cX2_frequency 5 = .ok (.astore_n 3, 1) := by decide +kernel
theorem dX2_frequency_6 : decode cX2_frequency 6 = .ok (.iload_n 2, 1) := by decide +kernel
theorem dX2_frequency_7 : decode cX2_frequency 7 = .ok (.invokestatic 42, 3) := by decide +kernel
theorem dX2_frequency_10 : decode cX2_frequency 10 = .ok (.aload_n 3, 1) := by decide +kernel
theorem dX2_frequency_11 : decode cX2_frequency 11 = .ok (.iload_n 2, 1) := by decide +kernel
theorem dX2_frequency_12 : decode cX2_frequency 12 = .ok (.invokevirtual 129, 3) := by decide +kernel
theorem dX2_frequency_15 : decode cX2_frequency 15 = .ok (.ireturn, 1) := by decide +kernel
theorem dX2_different_0 : decode cX2_different 0 = .ok (.aload_n 0, 1) := by decide +kernel
theorem dX2_different_1 : decode cX2_different 1 = .ok (.iload_n 1, 1) := by decide +kernel
theorem dX2_different_2 : decode cX2_different 2 = .ok (.invokevirtual 38, 3) := by decide +kernel
theorem dX2_different_5 : decode cX2_different 5 = .ok (.astore_n 2, 1) := by decide +kernel
theorem dX2_different_6 : decode cX2_different 6 = .ok (.iconst 0, 1) := by decide +kernel
theorem dX2_different_7 : decode cX2_different 7 = .ok (.istore_n 3, 1) := by decide +kernel
theorem dX2_different_8 : decode cX2_different 8 = .ok (.iconst 0, 1) := by decide +kernel
theorem dX2_different_9 : decode cX2_different 9 = .ok (.istore 4, 2) := by decide +kernel
theorem dX2_different_11 : decode cX2_different 11 = .ok (.iload 4, 2) := by decide +kernel
theorem dX2_different_13 : decode cX2_different 13 = .ok (.aload_n 2, 1) := by decide +kernel
theorem dX2_different_14 : decode cX2_different 14 = .ok (.getfield 53, 3) := by decide +kernel
theorem dX2_different_17 : decode cX2_different 17 = .ok (.if_icmp .ge 21, 3) := by decide +kernel
theorem dX2_different_20 : decode cX2_different 20 = .ok (.aload_n 2, 1) := by decide +kernel
theorem dX2_different_21 : decode cX2_different 21 = .ok (.iload 4, 2) := by decide +kernel
theorem dX2_different_23 : decode cX2_different 23 = .ok (.invokevirtual 133, 3) := by decide +kernel
theorem dX2_different_26 : decode cX2_different 26 = .ok (.ifCond .eq 6, 3) := by decide +kernel
theorem dX2_different_29 : decode cX2_different 29 = .ok (.iinc 3 1, 3) := by decide +kernel
theorem dX2_different_32 : decode cX2_different 32 = .ok (.iinc 4 1, 3) := by decide +kernel
theorem dX2_different_35 : decode cX2_different 35 = .ok (.goto (-24), 3) := by decide +kernel
theorem dX2_different_38 : decode cX2_different 38 = .ok (.iload_n 3, 1) := by decide +kernel
theorem dX2_different_39 : decode cX2_different 39 = .ok (.ireturn, 1) := by decide +kernel
theorem dX2_most_0 : decode cX2_most 0 = .ok (.aload_n 0, 1) := by decide +kernel
theorem dX2_most_1 : decode cX2_most 1 = .ok (.iload_n 1, 1) := by decide +kernel
theorem dX2_most_2 : decode cX2_most 2 = .ok (.invokevirtual 38, 3) := by decide +kernel
theorem dX2_most_5 : decode cX2_most 5 = .ok (.astore_n 2, 1) := by decide +kernel
theorem dX2_most_6 : decode cX2_most 6 = .ok (.aload_n 2, 1) := by decide +kernel
theorem dX2_most_7 : decode cX2_most 7 = .ok (.invokestatic 137, 3) := by decide +kernel
theorem dX2_most_10 : decode cX2_most 10 = .ok (.iconst (-1), 1) := by decide +kernel
theorem dX2_most_11 : decode cX2_most 11 = .ok (.istore_n 3, 1) := by decide +kernel
theorem dX2_most_12 : decode cX2_most 12 = .ok (.iconst 0, 1) := by decide +kernel
theorem dX2_most_13 : decode cX2_most 13 = .ok (.istore 4, 2) := by decide +kernel
theorem dX2_most_15 : decode cX2_most 15 = .ok (.iconst 0, 1) := by decide +kernel
theorem dX2_most_16 : decode cX2_most 16 = .ok (.istore 5, 2) := by decide +kernel
theorem dX2_most_18 : decode cX2_most 18 = .ok (.iload 5, 2) := by decide +kernel
theorem dX2_most_20 : decode cX2_most 20 = .ok (.aload_n 2, 1) := by decide +kernel
theorem dX2_most_21 : decode cX2_most 21 = .ok (.getfield 53, 3) := by decide +kernel
theorem dX2_most_24 : decode cX2_most 24 = .ok (.if_icmp .ge 53, 3) := by decide +kernel
theorem dX2_most_27 : decode cX2_most 27 = .ok (.aload_n 2, 1) := by decide +kernel
theorem dX2_most_28 : decode cX2_most 28 = .ok (.getfield 83, 3) := by decide +kernel
theorem dX2_most_31 : decode cX2_most 31 = .ok (.iload 5, 2) := by decide +kernel
theorem dX2_most_33 : decode cX2_most 33 = .ok (.iaload, 1) := by decide +kernel
theorem dX2_most_34 : decode cX2_most 34 = .ok (.istore 6, 2) := by decide +kernel
theorem dX2_most_36 : decode cX2_most 36 = .ok (.aload_n 2, 1) := by decide +kernel
theorem dX2_most_37 : decode cX2_most 37 = .ok (.iload 6, 2) := by decide +kernel
theorem dX2_most_39 : decode cX2_most 39 = .ok (.invokevirtual 129, 3) := by decide +kernel
theorem dX2_most_42 : decode cX2_most 42 = .ok (.istore 7, 2) := by decide +kernel
theorem dX2_most_44 : decode cX2_most 44 = .ok (.iload 7, 2) := by decide +kernel
theorem dX2_most_46 : decode cX2_most 46 = .ok (.iload 4, 2) := by decide +kernel
theorem dX2_most_48 : decode cX2_most 48 = .ok (.if_icmp .gt 16, 3) := by decide +kernel
theorem dX2_most_51 : decode cX2_most 51 = .ok (.iload 7, 2) := by decide +kernel
theorem dX2_most_53 : decode cX2_most 53 = .ok (.iload 4, 2) := by decide +kernel
theorem dX2_most_55 : decode cX2_most 55 = .ok (.if_icmp .ne 16, 3) := by decide +kernel
theorem dX2_most_58 : decode cX2_most 58 = .ok (.iload 6, 2) := by decide +kernel
theorem dX2_most_60 : decode cX2_most 60 = .ok (.iload_n 3, 1) := by decide +kernel
theorem dX2_most_61 : decode cX2_most 61 = .ok (.if_icmp .ge 10, 3) := by decide +kernel
theorem dX2_most_64 : decode cX2_most 64 = .ok (.iload 6, 2) := by decide +kernel
theorem dX2_most_66 : decode cX2_most 66 = .ok (.istore_n 3, 1) := by decide +kernel
theorem dX2_most_67 : decode cX2_most 67 = .ok (.iload 7, 2) := by decide +kernel
theorem dX2_most_69 : decode cX2_most 69 = .ok (.istore 4, 2) := by decide +kernel
theorem dX2_most_71 : decode cX2_most 71 = .ok (.iinc 5 1, 3) := by decide +kernel
theorem dX2_most_74 : decode cX2_most 74 = .ok (.goto (-56), 3) := by decide +kernel
theorem dX2_most_77 : decode cX2_most 77 = .ok (.iload_n 3, 1) := by decide +kernel
theorem dX2_most_78 : decode cX2_most 78 = .ok (.ireturn, 1) := by decide +kernel
theorem dX2_isApart_0 : decode cX2_isApart 0 = .ok (.aload_n 0, 1) := by decide +kernel
theorem dX2_isApart_1 : decode cX2_isApart 1 = .ok (.iload_n 1, 1) := by decide +kernel
theorem dX2_isApart_2 : decode cX2_isApart 2 = .ok (.invokevirtual 38, 3) := by decide +kernel
theorem dX2_isApart_5 : decode cX2_isApart 5 = .ok (.astore_n 3, 1) := by decide +kernel
theorem dX2_isApart_6 : decode cX2_isApart 6 = .ok (.aload_n 0, 1) := by decide +kernel
theorem dX2_isApart_7 : decode cX2_isApart 7 = .ok (.iload_n 2, 1) := by decide +kernel
theorem dX2_isApart_8 : decode cX2_isApart 8 = .ok (.invokevirtual 38, 3) := by decide +kernel
theorem dX2_isApart_11 : decode cX2_isApart 11 = .ok (.astore 4, 2) := by decide +kernel
theorem dX2_isApart_13 : decode cX2_isApart 13 = .ok (.iconst 0, 1) := by decide +kernel
theorem dX2_isApart_14 : decode cX2_isApart 14 = .ok (.istore 5, 2) := by decide +kernel
theorem dX2_isApart_16 : decode cX2_isApart 16 = .ok (.iload 5, 2) := by decide +kernel
theorem dX2_isApart_18 : decode cX2_isApart 18 = .ok (.aload_n 3, 1) := by decide +kernel
theorem dX2_isApart_19 : decode cX2_isApart 19 = .ok (.getfield 53, 3) := by decide +kernel
theorem dX2_isApart_22 : decode cX2_isApart 22 = .ok (.if_icmp .ge 26, 3) := by decide +kernel
theorem dX2_isApart_25 : decode cX2_isApart 25 = .ok (.aload 4, 2) := by decide +kernel
theorem dX2_isApart_27 : decode cX2_isApart 27 = .ok (.aload_n 3, 1) := by decide +kernel
theorem dX2_isApart_28 : decode cX2_isApart 28 = .ok (.getfield 83, 3) := by decide +kernel
theorem dX2_isApart_31 : decode cX2_isApart 31 = .ok (.iload 5, 2) := by decide +kernel
theorem dX2_isApart_33 : decode cX2_isApart 33 = .ok (.iaload, 1) := by decide +kernel
theorem dX2_isApart_34 : decode cX2_isApart 34 = .ok (.invokevirtual 140, 3) := by decide +kernel
theorem dX2_isApart_37 : decode cX2_isApart 37 = .ok (.ifCond .eq 5, 3) := by decide +kernel
theorem dX2_isApart_40 : decode cX2_isApart 40 = .ok (.iconst 0, 1) := by decide +kernel
theorem dX2_isApart_41 : decode cX2_isApart 41 = .ok (.ireturn, 1) := by decide +kernel
theorem dX2_isApart_42 : decode cX2_isApart 42 = .ok (.iinc 5 1, 3) := by decide +kernel
theorem dX2_isApart_45 : decode cX2_isApart 45 = .ok (.goto (-29), 3) := by decide +kernel
theorem dX2_isApart_48 : decode cX2_isApart 48 = .ok (.iconst 1, 1) := by decide +kernel
theorem dX2_isApart_49 : decode cX2_isApart 49 = .ok (.ireturn, 1) := by decide +kernel
theorem dX2_alone_0 : decode cX2_alone 0 = .ok (.aload_n 0, 1) := by decide +kernel
theorem dX2_alone_1 : decode cX2_alone 1 = .ok (.iload_n 1, 1) := by decide +kernel
theorem dX2_alone_2 : decode cX2_alone 2 = .ok (.invokevirtual 38, 3) := by decide +kernel
theorem dX2_alone_5 : decode cX2_alone 5 = .ok (.astore_n 3, 1) := by decide +kernel
theorem dX2_alone_6 : decode cX2_alone 6 = .ok (.aload_n 0, 1) := by decide +kernel
theorem dX2_alone_7 : decode cX2_alone 7 = .ok (.iload_n 2, 1) := by decide +kernel
theorem dX2_alone_8 : decode cX2_alone 8 = .ok (.invokevirtual 38, 3) := by decide +kernel
theorem dX2_alone_11 : decode cX2_alone 11 = .ok (.astore 4, 2) := by decide +kernel
theorem dX2_alone_13 : decode cX2_alone 13 = .ok (.iconst 0, 1) := by decide +kernel
theorem dX2_alone_14 : decode cX2_alone 14 = .ok (.istore 5, 2) := by decide +kernel
theorem dX2_alone_16 : decode cX2_alone 16 = .ok (.iconst 0, 1) := by decide +kernel
theorem dX2_alone_17 : decode cX2_alone 17 = .ok (.istore 6, 2) := by decide +kernel
theorem dX2_alone_19 : decode cX2_alone 19 = .ok (.iload 6, 2) := by decide +kernel
theorem dX2_alone_21 : decode cX2_alone 21 = .ok (.aload_n 3, 1) := by decide +kernel
theorem dX2_alone_22 : decode cX2_alone 22 = .ok (.getfield 53, 3) := by decide +kernel
theorem dX2_alone_25 : decode cX2_alone 25 = .ok (.if_icmp .ge 36, 3) := by decide +kernel
theorem dX2_alone_28 : decode cX2_alone 28 = .ok (.aload_n 3, 1) := by decide +kernel
theorem dX2_alone_29 : decode cX2_alone 29 = .ok (.iload 6, 2) := by decide +kernel
theorem dX2_alone_31 : decode cX2_alone 31 = .ok (.invokevirtual 133, 3) := by decide +kernel
theorem dX2_alone_34 : decode cX2_alone 34 = .ok (.ifCond .eq 21, 3) := by decide +kernel
theorem dX2_alone_37 : decode cX2_alone 37 = .ok (.aload 4, 2) := by decide +kernel
theorem dX2_alone_39 : decode cX2_alone 39 = .ok (.aload_n 3, 1) := by decide +kernel
theorem dX2_alone_40 : decode cX2_alone 40 = .ok (.getfield 83, 3) := by decide +kernel
theorem dX2_alone_43 : decode cX2_alone 43 = .ok (.iload 6, 2) := by decide +kernel
theorem dX2_alone_45 : decode cX2_alone 45 = .ok (.iaload, 1) := by decide +kernel
theorem dX2_alone_46 : decode cX2_alone 46 = .ok (.invokevirtual 140, 3) := by decide +kernel
theorem dX2_alone_49 : decode cX2_alone 49 = .ok (.ifCond .ne 6, 3) := by decide +kernel
theorem dX2_alone_52 : decode cX2_alone 52 = .ok (.iinc 5 1, 3) := by decide +kernel
theorem dX2_alone_55 : decode cX2_alone 55 = .ok (.iinc 6 1, 3) := by decide +kernel
theorem dX2_alone_58 : decode cX2_alone 58 = .ok (.goto (-39), 3) := by decide +kernel
theorem dX2_alone_61 : decode cX2_alone 61 = .ok (.iload 5, 2) := by decide +kernel
theorem dX2_alone_63 : decode cX2_alone 63 = .ok (.ireturn, 1) := by decide +kernel
theorem dX2_greatest_0 : decode cX2_greatest 0 = .ok (.aload_n 0, 1) := by decide +kernel
theorem dX2_greatest_1 : decode cX2_greatest 1 = .ok (.iload_n 1, 1) := by decide +kernel
theorem dX2_greatest_2 : decode cX2_greatest 2 = .ok (.invokevirtual 38, 3) := by decide +kernel
theorem dX2_greatest_5 : decode cX2_greatest 5 = .ok (.astore_n 3, 1) := by decide +kernel
theorem dX2_greatest_6 : decode cX2_greatest 6 = .ok (.iload_n 2, 1) := by decide +kernel
theorem dX2_greatest_7 : decode cX2_greatest 7 = .ok (.invokestatic 143, 3) := by decide +kernel
theorem dX2_greatest_10 : decode cX2_greatest 10 = .ok (.aload_n 3, 1) := by decide +kernel
theorem dX2_greatest_11 : decode cX2_greatest 11 = .ok (.invokestatic 137, 3) := by decide +kernel
theorem dX2_greatest_14 : decode cX2_greatest 14 = .ok (.aload_n 0, 1) := by decide +kernel
theorem dX2_greatest_15 : decode cX2_greatest 15 = .ok (.aload_n 3, 1) := by decide +kernel
theorem dX2_greatest_16 : decode cX2_greatest 16 = .ok (.getfield 83, 3) := by decide +kernel
theorem dX2_greatest_19 : decode cX2_greatest 19 = .ok (.iconst 0, 1) := by decide +kernel
theorem dX2_greatest_20 : decode cX2_greatest 20 = .ok (.iaload, 1) := by decide +kernel
theorem dX2_greatest_21 : decode cX2_greatest 21 = .ok (.iload_n 2, 1) := by decide +kernel
theorem dX2_greatest_22 : decode cX2_greatest 22 = .ok (.invokevirtual 146, 3) := by decide +kernel
theorem dX2_greatest_25 : decode cX2_greatest 25 = .ok (.istore 4, 2) := by decide +kernel
theorem dX2_greatest_27 : decode cX2_greatest 27 = .ok (.iconst 1, 1) := by decide +kernel
theorem dX2_greatest_28 : decode cX2_greatest 28 = .ok (.istore 5, 2) := by decide +kernel
theorem dX2_greatest_30 : decode cX2_greatest 30 = .ok (.iload 5, 2) := by decide +kernel
theorem dX2_greatest_32 : decode cX2_greatest 32 = .ok (.aload_n 3, 1) := by decide +kernel
theorem dX2_greatest_33 : decode cX2_greatest 33 = .ok (.getfield 53, 3) := by decide +kernel
theorem dX2_greatest_36 : decode cX2_greatest 36 = .ok (.if_icmp .ge 28, 3) := by decide +kernel
theorem dX2_greatest_39 : decode cX2_greatest 39 = .ok (.iload 4, 2) := by decide +kernel
theorem dX2_greatest_41 : decode cX2_greatest 41 = .ok (.aload_n 0, 1) := by decide +kernel
theorem dX2_greatest_42 : decode cX2_greatest 42 = .ok (.aload_n 3, 1) := by decide +kernel
theorem dX2_greatest_43 : decode cX2_greatest 43 = .ok (.getfield 83, 3) := by decide +kernel
theorem dX2_greatest_46 : decode cX2_greatest 46 = .ok (.iload 5, 2) := by decide +kernel
theorem dX2_greatest_48 : decode cX2_greatest 48 = .ok (.iaload, 1) := by decide +kernel
theorem dX2_greatest_49 : decode cX2_greatest 49 = .ok (.iload_n 2, 1) := by decide +kernel
theorem dX2_greatest_50 : decode cX2_greatest 50 = .ok (.invokevirtual 146, 3) := by decide +kernel
theorem dX2_greatest_53 : decode cX2_greatest 53 = .ok (.invokestatic 150, 3) := by decide +kernel
theorem dX2_greatest_56 : decode cX2_greatest 56 = .ok (.istore 4, 2) := by decide +kernel
theorem dX2_greatest_58 : decode cX2_greatest 58 = .ok (.iinc 5 1, 3) := by decide +kernel
theorem dX2_greatest_61 : decode cX2_greatest 61 = .ok (.goto (-31), 3) := by decide +kernel
theorem dX2_greatest_64 : decode cX2_greatest 64 = .ok (.iload 4, 2) := by decide +kernel
theorem dX2_greatest_66 : decode cX2_greatest 66 = .ok (.ireturn, 1) := by decide +kernel
theorem dX2_least_0 : decode cX2_least 0 = .ok (.aload_n 0, 1) := by decide +kernel
theorem dX2_least_1 : decode cX2_least 1 = .ok (.iload_n 1, 1) := by decide +kernel
theorem dX2_least_2 : decode cX2_least 2 = .ok (.invokevirtual 38, 3) := by decide +kernel
theorem dX2_least_5 : decode cX2_least 5 = .ok (.astore_n 3, 1) := by decide +kernel
theorem dX2_least_6 : decode cX2_least 6 = .ok (.iload_n 2, 1) := by decide +kernel
theorem dX2_least_7 : decode cX2_least 7 = .ok (.invokestatic 143, 3) := by decide +kernel
theorem dX2_least_10 : decode cX2_least 10 = .ok (.aload_n 3, 1) := by decide +kernel
theorem dX2_least_11 : decode cX2_least 11 = .ok (.invokestatic 137, 3) := by decide +kernel
theorem dX2_least_14 : decode cX2_least 14 = .ok (.aload_n 0, 1) := by decide +kernel
theorem dX2_least_15 : decode cX2_least 15 = .ok (.aload_n 3, 1) := by decide +kernel
theorem dX2_least_16 : decode cX2_least 16 = .ok (.getfield 83, 3) := by decide +kernel
theorem dX2_least_19 : decode cX2_least 19 = .ok (.iconst 0, 1) := by decide +kernel
theorem dX2_least_20 : decode cX2_least 20 = .ok (.iaload, 1) := by decide +kernel
theorem dX2_least_21 : decode cX2_least 21 = .ok (.iload_n 2, 1) := by decide +kernel
theorem dX2_least_22 : decode cX2_least 22 = .ok (.invokevirtual 146, 3) := by decide +kernel
theorem dX2_least_25 : decode cX2_least 25 = .ok (.istore 4, 2) := by decide +kernel
theorem dX2_least_27 : decode cX2_least 27 = .ok (.iconst 1, 1) := by decide +kernel
theorem dX2_least_28 : decode cX2_least 28 = .ok (.istore 5, 2) := by decide +kernel
theorem dX2_least_30 : decode cX2_least 30 = .ok (.iload 5, 2) := by decide +kernel
theorem dX2_least_32 : decode cX2_least 32 = .ok (.aload_n 3, 1) := by decide +kernel
theorem dX2_least_33 : decode cX2_least 33 = .ok (.getfield 53, 3) := by decide +kernel
theorem dX2_least_36 : decode cX2_least 36 = .ok (.if_icmp .ge 28, 3) := by decide +kernel
theorem dX2_least_39 : decode cX2_least 39 = .ok (.iload 4, 2) := by decide +kernel
theorem dX2_least_41 : decode cX2_least 41 = .ok (.aload_n 0, 1) := by decide +kernel
theorem dX2_least_42 : decode cX2_least 42 = .ok (.aload_n 3, 1) := by decide +kernel
theorem dX2_least_43 : decode cX2_least 43 = .ok (.getfield 83, 3) := by decide +kernel
theorem dX2_least_46 : decode cX2_least 46 = .ok (.iload 5, 2) := by decide +kernel
theorem dX2_least_48 : decode cX2_least 48 = .ok (.iaload, 1) := by decide +kernel
theorem dX2_least_49 : decode cX2_least 49 = .ok (.iload_n 2, 1) := by decide +kernel
theorem dX2_least_50 : decode cX2_least 50 = .ok (.invokevirtual 146, 3) := by decide +kernel
theorem dX2_least_53 : decode cX2_least 53 = .ok (.invokestatic 155, 3) := by decide +kernel
theorem dX2_least_56 : decode cX2_least 56 = .ok (.istore 4, 2) := by decide +kernel
theorem dX2_least_58 : decode cX2_least 58 = .ok (.iinc 5 1, 3) := by decide +kernel
theorem dX2_least_61 : decode cX2_least 61 = .ok (.goto (-31), 3) := by decide +kernel
theorem dX2_least_64 : decode cX2_least 64 = .ok (.iload 4, 2) := by decide +kernel
theorem dX2_least_66 : decode cX2_least 66 = .ok (.ireturn, 1) := by decide +kernel
theorem dX2_sort_0 : decode cX2_sort 0 = .ok (.aload_n 0, 1) := by decide +kernel
theorem dX2_sort_1 : decode cX2_sort 1 = .ok (.iload_n 1, 1) := by decide +kernel
theorem dX2_sort_2 : decode cX2_sort 2 = .ok (.invokevirtual 38, 3) := by decide +kernel
theorem dX2_sort_5 : decode cX2_sort 5 = .ok (.astore 4, 2) := by decide +kernel
theorem dX2_sort_7 : decode cX2_sort 7 = .ok (.iload_n 2, 1) := by decide +kernel
theorem dX2_sort_8 : decode cX2_sort 8 = .ok (.invokestatic 143, 3) := by decide +kernel
theorem dX2_sort_11 : decode cX2_sort 11 = .ok (.aload_n 0, 1) := by decide +kernel
theorem dX2_sort_12 : decode cX2_sort 12 = .ok (.getfield 25, 3) := by decide +kernel
theorem dX2_sort_15 : decode cX2_sort 15 = .ok (.aload 4, 2) := by decide +kernel
theorem dX2_sort_17 : decode cX2_sort 17 = .ok (.invokevirtual 119, 3) := by decide +kernel
theorem dX2_sort_20 : decode cX2_sort 20 = .ok (.aload_n 0, 1) := by decide +kernel
theorem dX2_sort_21 : decode cX2_sort 21 = .ok (.aload 4, 2) := by decide +kernel
theorem dX2_sort_23 : decode cX2_sort 23 = .ok (.iload_n 2, 1) := by decide +kernel
theorem dX2_sort_24 : decode cX2_sort 24 = .ok (.iload_n 3, 1) := by decide +kernel
theorem dX2_sort_25 : decode cX2_sort 25 = .ok (.invokevirtual 158, 3) := by decide +kernel
theorem dX2_sort_28 : decode cX2_sort 28 = .ok (.aload 4, 2) := by decide +kernel
theorem dX2_sort_30 : decode cX2_sort 30 = .ok (.aload_n 0, 1) := by decide +kernel
theorem dX2_sort_31 : decode cX2_sort 31 = .ok (.getfield 25, 3) := by decide +kernel
theorem dX2_sort_34 : decode cX2_sort 34 = .ok (.invokevirtual 162, 3) := by decide +kernel
theorem dX2_sort_37 : decode cX2_sort 37 = .ok (.ireturn, 1) := by decide +kernel
theorem dX2_isSorted_0 : decode cX2_isSorted 0 = .ok (.aload_n 0, 1) := by decide +kernel
theorem dX2_isSorted_1 : decode cX2_isSorted 1 = .ok (.iload_n 1, 1) := by decide +kernel
theorem dX2_isSorted_2 : decode cX2_isSorted 2 = .ok (.invokevirtual 38, 3) := by decide +kernel
theorem dX2_isSorted_5 : decode cX2_isSorted 5 = .ok (.astore_n 3, 1) := by decide +kernel
theorem dX2_isSorted_6 : decode cX2_isSorted 6 = .ok (.iload_n 2, 1) := by decide +kernel
theorem dX2_isSorted_7 : decode cX2_isSorted 7 = .ok (.invokestatic 143, 3) := by decide +kernel
theorem dX2_isSorted_10 : decode cX2_isSorted 10 = .ok (.aload_n 0, 1) := by decide +kernel
theorem dX2_isSorted_11 : decode cX2_isSorted 11 = .ok (.aload_n 3, 1) := by decide +kernel
theorem dX2_isSorted_12 : decode cX2_isSorted 12 = .ok (.iload_n 2, 1) := by decide +kernel
theorem dX2_isSorted_13 : decode cX2_isSorted 13 = .ok (.invokevirtual 165, 3) := by decide +kernel
theorem dX2_isSorted_16 : decode cX2_isSorted 16 = .ok (.ireturn, 1) := by decide +kernel
theorem dX2_search_0 : decode cX2_search 0 = .ok (.aload_n 0, 1) := by decide +kernel
theorem dX2_search_1 : decode cX2_search 1 = .ok (.iload_n 1, 1) := by decide +kernel
theorem dX2_search_2 : decode cX2_search 2 = .ok (.invokevirtual 38, 3) := by decide +kernel
theorem dX2_search_5 : decode cX2_search 5 = .ok (.astore 4, 2) := by decide +kernel
theorem dX2_search_7 : decode cX2_search 7 = .ok (.iload_n 3, 1) := by decide +kernel
theorem dX2_search_8 : decode cX2_search 8 = .ok (.invokestatic 42, 3) := by decide +kernel
theorem dX2_search_11 : decode cX2_search 11 = .ok (.iload_n 2, 1) := by decide +kernel
theorem dX2_search_12 : decode cX2_search 12 = .ok (.invokestatic 143, 3) := by decide +kernel
theorem dX2_search_15 : decode cX2_search 15 = .ok (.aload_n 0, 1) := by decide +kernel
theorem dX2_search_16 : decode cX2_search 16 = .ok (.aload 4, 2) := by decide +kernel
theorem dX2_search_18 : decode cX2_search 18 = .ok (.iload_n 2, 1) := by decide +kernel
theorem dX2_search_19 : decode cX2_search 19 = .ok (.invokevirtual 165, 3) := by decide +kernel
theorem dX2_search_22 : decode cX2_search 22 = .ok (.ifCond .ne 13, 3) := by decide +kernel
theorem dX2_search_25 : decode cX2_search 25 = .ok (.new 92, 3) := by decide +kernel
theorem dX2_search_28 : decode cX2_search 28 = .ok (.dup, 1) := by decide +kernel
theorem dX2_search_29 : decode cX2_search 29 = .ok (.ldc 168, 2) := by decide +kernel
theorem dX2_search_31 : decode cX2_search 31 = .ok (.invokespecial 96, 3) := by decide +kernel
theorem dX2_search_34 : decode cX2_search 34 = .ok (.athrow, 1) := by decide +kernel
theorem dX2_search_35 : decode cX2_search 35 = .ok (.aload_n 0, 1) := by decide +kernel
theorem dX2_search_36 : decode cX2_search 36 = .ok (.iload_n 3, 1) := by decide +kernel
theorem dX2_search_37 : decode cX2_search 37 = .ok (.iload_n 2, 1) := by decide +kernel
theorem dX2_search_38 : decode cX2_search 38 = .ok (.invokevirtual 146, 3) := by decide +kernel
theorem dX2_search_41 : decode cX2_search 41 = .ok (.istore 5, 2) := by decide +kernel
theorem dX2_search_43 : decode cX2_search 43 = .ok (.iconst 0, 1) := by decide +kernel
theorem dX2_search_44 : decode cX2_search 44 = .ok (.istore 6, 2) := by decide +kernel
theorem dX2_search_46 : decode cX2_search 46 = .ok (.iload 6, 2) := by decide +kernel
theorem dX2_search_48 : decode cX2_search 48 = .ok (.aload 4, 2) := by decide +kernel
theorem dX2_search_50 : decode cX2_search 50 = .ok (.getfield 53, 3) := by decide +kernel
theorem dX2_search_53 : decode cX2_search 53 = .ok (.if_icmp .ge 44, 3) := by decide +kernel
theorem dX2_search_56 : decode cX2_search 56 = .ok (.aload_n 0, 1) := by decide +kernel
theorem dX2_search_57 : decode cX2_search 57 = .ok (.aload 4, 2) := by decide +kernel
theorem dX2_search_59 : decode cX2_search 59 = .ok (.getfield 83, 3) := by decide +kernel
theorem dX2_search_62 : decode cX2_search 62 = .ok (.iload 6, 2) := by decide +kernel
theorem dX2_search_64 : decode cX2_search 64 = .ok (.iaload, 1) := by decide +kernel
theorem dX2_search_65 : decode cX2_search 65 = .ok (.iload_n 2, 1) := by decide +kernel
theorem dX2_search_66 : decode cX2_search 66 = .ok (.invokevirtual 146, 3) := by decide +kernel
theorem dX2_search_69 : decode cX2_search 69 = .ok (.istore 7, 2) := by decide +kernel
theorem dX2_search_71 : decode cX2_search 71 = .ok (.iload 7, 2) := by decide +kernel
theorem dX2_search_73 : decode cX2_search 73 = .ok (.iload 5, 2) := by decide +kernel
theorem dX2_search_75 : decode cX2_search 75 = .ok (.if_icmp .ne 6, 3) := by decide +kernel
theorem dX2_search_78 : decode cX2_search 78 = .ok (.bipush (-2), 2) := by decide +kernel
theorem dX2_search_80 : decode cX2_search 80 = .ok (.ireturn, 1) := by decide +kernel
theorem dX2_search_81 : decode cX2_search 81 = .ok (.iload 7, 2) := by decide +kernel
theorem dX2_search_83 : decode cX2_search 83 = .ok (.iload 5, 2) := by decide +kernel
theorem dX2_search_85 : decode cX2_search 85 = .ok (.if_icmp .le 6, 3) := by decide +kernel
theorem dX2_search_88 : decode cX2_search 88 = .ok (.iload 6, 2) := by decide +kernel
theorem dX2_search_90 : decode cX2_search 90 = .ok (.ireturn, 1) := by decide +kernel
theorem dX2_search_91 : decode cX2_search 91 = .ok (.iinc 6 1, 3) := by decide +kernel
theorem dX2_search_94 : decode cX2_search 94 = .ok (.goto (-48), 3) := by decide +kernel
theorem dX2_search_97 : decode cX2_search 97 = .ok (.aload 4, 2) := by decide +kernel
theorem dX2_search_99 : decode cX2_search 99 = .ok (.getfield 53, 3) := by decide +kernel
theorem dX2_search_102 : decode cX2_search 102 = .ok (.ireturn, 1) := by decide +kernel
theorem dX2_keyOf_0 : decode cX2_keyOf 0 = .ok (.iload_n 2, 1) := by decide +kernel
theorem dX2_keyOf_1 : decode cX2_keyOf 1 = .ok (.iconst 1, 1) := by decide +kernel
theorem dX2_keyOf_2 : decode cX2_keyOf 2 = .ok (.if_icmp .ne 12, 3) := by decide +kernel
theorem dX2_keyOf_5 : decode cX2_keyOf 5 = .ok (.aload_n 0, 1) := by decide +kernel
theorem dX2_keyOf_6 : decode cX2_keyOf 6 = .ok (.getfield 18, 3) := by decide +kernel
theorem dX2_keyOf_9 : decode cX2_keyOf 9 = .ok (.iload_n 1, 1) := by decide +kernel
theorem dX2_keyOf_10 : decode cX2_keyOf 10 = .ok (.iaload, 1) := by decide +kernel
theorem dX2_keyOf_11 : decode cX2_keyOf 11 = .ok (.goto 4, 3) := by decide +kernel
theorem dX2_keyOf_14 : decode cX2_keyOf 14 = .ok (.iload_n 1, 1) := by decide +kernel
theorem dX2_keyOf_15 : decode cX2_keyOf 15 = .ok (.ireturn, 1) := by decide +kernel
theorem dX2_isInOrder_0 : decode cX2_isInOrder 0 = .ok (.iconst 1, 1) := by decide +kernel
theorem dX2_isInOrder_1 : decode cX2_isInOrder 1 = .ok (.istore_n 3, 1) := by decide +kernel
theorem dX2_isInOrder_2 : decode cX2_isInOrder 2 = .ok (.iload_n 3, 1) := by decide +kernel
theorem dX2_isInOrder_3 : decode cX2_isInOrder 3 = .ok (.aload_n 1, 1) := by decide +kernel
theorem dX2_isInOrder_4 : decode cX2_isInOrder 4 = .ok (.getfield 53, 3) := by decide +kernel
theorem dX2_isInOrder_7 : decode cX2_isInOrder 7 = .ok (.if_icmp .ge 38, 3) := by decide +kernel
theorem dX2_isInOrder_10 : decode cX2_isInOrder 10 = .ok (.aload_n 0, 1) := by decide +kernel
theorem dX2_isInOrder_11 : decode cX2_isInOrder 11 = .ok (.aload_n 1, 1) := by decide +kernel
theorem dX2_isInOrder_12 : decode cX2_isInOrder 12 = .ok (.getfield 83, 3) := by decide +kernel
theorem dX2_isInOrder_15 : decode cX2_isInOrder 15 = .ok (.iload_n 3, 1) := by decide +kernel
theorem dX2_isInOrder_16 : decode cX2_isInOrder 16 = .ok (.iaload, 1) := by decide +kernel
theorem dX2_isInOrder_17 : decode cX2_isInOrder 17 = .ok (.iload_n 2, 1) := by decide +kernel
theorem dX2_isInOrder_18 : decode cX2_isInOrder 18 = .ok (.invokevirtual 146, 3) := by decide +kernel
theorem dX2_isInOrder_21 : decode cX2_isInOrder 21 = .ok (.aload_n 0, 1) := by decide +kernel
theorem dX2_isInOrder_22 : decode cX2_isInOrder 22 = .ok (.aload_n 1, 1) := by decide +kernel
theorem dX2_isInOrder_23 : decode cX2_isInOrder 23 = .ok (.getfield 83, 3) := by decide +kernel
theorem dX2_isInOrder_26 : decode cX2_isInOrder 26 = .ok (.iload_n 3, 1) := by decide +kernel
theorem dX2_isInOrder_27 : decode cX2_isInOrder 27 = .ok (.iconst 1, 1) := by decide +kernel
theorem dX2_isInOrder_28 : decode cX2_isInOrder 28 = .ok (.isub, 1) := by decide +kernel
theorem dX2_isInOrder_29 : decode cX2_isInOrder 29 = .ok (.iaload, 1) := by decide +kernel
theorem dX2_isInOrder_30 : decode cX2_isInOrder 30 = .ok (.iload_n 2, 1) := by decide +kernel
theorem dX2_isInOrder_31 : decode cX2_isInOrder 31 = .ok (.invokevirtual 146, 3) := by decide +kernel
theorem dX2_isInOrder_34 : decode cX2_isInOrder 34 = .ok (.if_icmp .ge 5, 3) := by decide +kernel
theorem dX2_isInOrder_37 : decode cX2_isInOrder 37 = .ok (.iconst 0, 1) := by decide +kernel
theorem dX2_isInOrder_38 : decode cX2_isInOrder 38 = .ok (.ireturn, 1) := by decide +kernel
theorem dX2_isInOrder_39 : decode cX2_isInOrder 39 = .ok (.iinc 3 1, 3) := by decide +kernel
theorem dX2_isInOrder_42 : decode cX2_isInOrder 42 = .ok (.goto (-40), 3) := by decide +kernel
theorem dX2_isInOrder_45 : decode cX2_isInOrder 45 = .ok (.iconst 1, 1) := by decide +kernel
theorem dX2_isInOrder_46 : decode cX2_isInOrder 46 = .ok (.ireturn, 1) := by decide +kernel
theorem dX2_putInOrder_0 : decode cX2_putInOrder 0 = .ok (.iconst 1, 1) := by decide +kernel
theorem dX2_putInOrder_1 : decode cX2_putInOrder 1 = .ok (.istore 4, 2) := by decide +kernel
theorem dX2_putInOrder_3 : decode cX2_putInOrder 3 = .ok (.iload 4, 2) := by decide +kernel
theorem dX2_putInOrder_5 : decode cX2_putInOrder 5 = .ok (.aload_n 1, 1) := by decide +kernel
theorem dX2_putInOrder_6 : decode cX2_putInOrder 6 = .ok (.getfield 53, 3) := by decide +kernel
theorem dX2_putInOrder_9 : decode cX2_putInOrder 9 = .ok (.if_icmp .ge 78, 3) := by decide +kernel
theorem dX2_putInOrder_12 : decode cX2_putInOrder 12 = .ok (.aload_n 1, 1) := by decide +kernel
theorem dX2_putInOrder_13 : decode cX2_putInOrder 13 = .ok (.getfield 83, 3) := by decide +kernel
theorem dX2_putInOrder_16 : decode cX2_putInOrder 16 = .ok (.iload 4, 2) := by decide +kernel
theorem dX2_putInOrder_18 : decode cX2_putInOrder 18 = .ok (.iaload, 1) := by decide +kernel
theorem dX2_putInOrder_19 : decode cX2_putInOrder 19 = .ok (.istore 5, 2) := by decide +kernel
theorem dX2_putInOrder_21 : decode cX2_putInOrder 21 = .ok (.iload 4, 2) := by decide +kernel
theorem dX2_putInOrder_23 : decode cX2_putInOrder 23 = .ok (.istore 6, 2) := by decide +kernel
theorem dX2_putInOrder_25 : decode cX2_putInOrder 25 = .ok (.iload 6, 2) := by decide +kernel
theorem dX2_putInOrder_27 : decode cX2_putInOrder 27 = .ok (.ifCond .le 45, 3) := by decide +kernel
theorem dX2_putInOrder_30 : decode cX2_putInOrder 30 = .ok (.aload_n 0, 1) := by decide +kernel
theorem dX2_putInOrder_31 : decode cX2_putInOrder 31 = .ok (.iload 5, 2) := by decide +kernel
theorem dX2_putInOrder_33 : decode cX2_putInOrder 33 = .ok (.aload_n 1, 1) := by decide +kernel
theorem dX2_putInOrder_34 : decode cX2_putInOrder 34 = .ok (.getfield 83, 3) := by decide +kernel
theorem dX2_putInOrder_37 : decode cX2_putInOrder 37 = .ok (.iload 6, 2) := by decide +kernel
theorem dX2_putInOrder_39 : decode cX2_putInOrder 39 = .ok (.iconst 1, 1) := by decide +kernel
theorem dX2_putInOrder_40 : decode cX2_putInOrder 40 = .ok (.isub, 1) := by decide +kernel
theorem dX2_putInOrder_41 : decode cX2_putInOrder 41 = .ok (.iaload, 1) := by decide +kernel
theorem dX2_putInOrder_42 : decode cX2_putInOrder 42 = .ok (.iload_n 2, 1) := by decide +kernel
theorem dX2_putInOrder_43 : decode cX2_putInOrder 43 = .ok (.iload_n 3, 1) := by decide +kernel
theorem dX2_putInOrder_44 : decode cX2_putInOrder 44 = .ok (.invokevirtual 170, 3) := by decide +kernel
theorem dX2_putInOrder_47 : decode cX2_putInOrder 47 = .ok (.ifCond .eq 25, 3) := by decide +kernel
theorem dX2_putInOrder_50 : decode cX2_putInOrder 50 = .ok (.aload_n 1, 1) := by decide +kernel
theorem dX2_putInOrder_51 : decode cX2_putInOrder 51 = .ok (.getfield 83, 3) := by decide +kernel
theorem dX2_putInOrder_54 : decode cX2_putInOrder 54 = .ok (.iload 6, 2) := by decide +kernel
theorem dX2_putInOrder_56 : decode cX2_putInOrder 56 = .ok (.aload_n 1, 1) := by decide +kernel
theorem dX2_putInOrder_57 : decode cX2_putInOrder 57 = .ok (.getfield 83, 3) := by decide +kernel
theorem dX2_putInOrder_60 : decode cX2_putInOrder 60 = .ok (.iload 6, 2) := by decide +kernel
theorem dX2_putInOrder_62 : decode cX2_putInOrder 62 = .ok (.iconst 1, 1) := by decide +kernel
theorem dX2_putInOrder_63 : decode cX2_putInOrder 63 = .ok (.isub, 1) := by decide +kernel
theorem dX2_putInOrder_64 : decode cX2_putInOrder 64 = .ok (.iaload, 1) := by decide +kernel
theorem dX2_putInOrder_65 : decode cX2_putInOrder 65 = .ok (.iastore, 1) := by decide +kernel
theorem dX2_putInOrder_66 : decode cX2_putInOrder 66 = .ok (.iinc 6 (-1), 3) := by decide +kernel
theorem dX2_putInOrder_69 : decode cX2_putInOrder 69 = .ok (.goto (-44), 3) := by decide +kernel
theorem dX2_putInOrder_72 : decode cX2_putInOrder 72 = .ok (.aload_n 1, 1) := by decide +kernel
theorem dX2_putInOrder_73 : decode cX2_putInOrder 73 = .ok (.getfield 83, 3) := by decide +kernel
theorem dX2_putInOrder_76 : decode cX2_putInOrder 76 = .ok (.iload 6, 2) := by decide +kernel
theorem dX2_putInOrder_78 : decode cX2_putInOrder 78 = .ok (.iload 5, 2) := by decide +kernel
theorem dX2_putInOrder_80 : decode cX2_putInOrder 80 = .ok (.iastore, 1) := by decide +kernel
theorem dX2_putInOrder_81 : decode cX2_putInOrder 81 = .ok (.iinc 4 1, 3) := by decide +kernel
theorem dX2_putInOrder_84 : decode cX2_putInOrder 84 = .ok (.goto (-81), 3) := by decide +kernel
theorem dX2_putInOrder_87 : decode cX2_putInOrder 87 = .ok (.return_, 1) := by decide +kernel
theorem dX2_mustPass_0 : decode cX2_mustPass 0 = .ok (.aload_n 0, 1) := by decide +kernel
theorem dX2_mustPass_1 : decode cX2_mustPass 1 = .ok (.iload_n 1, 1) := by decide +kernel
theorem dX2_mustPass_2 : decode cX2_mustPass 2 = .ok (.iload_n 3, 1) := by decide +kernel
theorem dX2_mustPass_3 : decode cX2_mustPass 3 = .ok (.invokevirtual 146, 3) := by decide +kernel
theorem dX2_mustPass_6 : decode cX2_mustPass 6 = .ok (.istore 5, 2) := by decide +kernel
theorem dX2_mustPass_8 : decode cX2_mustPass 8 = .ok (.aload_n 0, 1) := by decide +kernel
theorem dX2_mustPass_9 : decode cX2_mustPass 9 = .ok (.iload_n 2, 1) := by decide +kernel
theorem dX2_mustPass_10 : decode cX2_mustPass 10 = .ok (.iload_n 3, 1) := by decide +kernel
theorem dX2_mustPass_11 : decode cX2_mustPass 11 = .ok (.invokevirtual 146, 3) := by decide +kernel
theorem dX2_mustPass_14 : decode cX2_mustPass 14 = .ok (.istore 6, 2) := by decide +kernel
theorem dX2_mustPass_16 : decode cX2_mustPass 16 = .ok (.iload 4, 2) := by decide +kernel
theorem dX2_mustPass_18 : decode cX2_mustPass 18 = .ok (.ifCond .eq 18, 3) := by decide +kernel
theorem dX2_mustPass_21 : decode cX2_mustPass 21 = .ok (.iload 5, 2) := by decide +kernel
theorem dX2_mustPass_23 : decode cX2_mustPass 23 = .ok (.iload 6, 2) := by decide +kernel
theorem dX2_mustPass_25 : decode cX2_mustPass 25 = .ok (.if_icmp .le 7, 3) := by decide +kernel
theorem dX2_mustPass_28 : decode cX2_mustPass 28 = .ok (.iconst 1, 1) := by decide +kernel
theorem dX2_mustPass_29 : decode cX2_mustPass 29 = .ok (.goto 19, 3) := by decide +kernel
theorem dX2_mustPass_32 : decode cX2_mustPass 32 = .ok (.iconst 0, 1) := by decide +kernel
theorem dX2_mustPass_33 : decode cX2_mustPass 33 = .ok (.goto 15, 3) := by decide +kernel
theorem dX2_mustPass_36 : decode cX2_mustPass 36 = .ok (.iload 5, 2) := by decide +kernel
theorem dX2_mustPass_38 : decode cX2_mustPass 38 = .ok (.iload 6, 2) := by decide +kernel
theorem dX2_mustPass_40 : decode cX2_mustPass 40 = .ok (.if_icmp .ge 7, 3) := by decide +kernel
theorem dX2_mustPass_43 : decode cX2_mustPass 43 = .ok (.iconst 1, 1) := by decide +kernel
theorem dX2_mustPass_44 : decode cX2_mustPass 44 = .ok (.goto 4, 3) := by decide +kernel
theorem dX2_mustPass_47 : decode cX2_mustPass 47 = .ok (.iconst 0, 1) := by decide +kernel
theorem dX2_mustPass_48 : decode cX2_mustPass 48 = .ok (.ireturn, 1) := by decide +kernel
theorem dX2_turn_0 : decode cX2_turn 0 = .ok (.aload_n 0, 1) := by decide +kernel
theorem dX2_turn_1 : decode cX2_turn 1 = .ok (.iload_n 1, 1) := by decide +kernel
theorem dX2_turn_2 : decode cX2_turn 2 = .ok (.invokevirtual 38, 3) := by decide +kernel
theorem dX2_turn_5 : decode cX2_turn 5 = .ok (.astore 4, 2) := by decide +kernel
theorem dX2_turn_7 : decode cX2_turn 7 = .ok (.aload 4, 2) := by decide +kernel
theorem dX2_turn_9 : decode cX2_turn 9 = .ok (.iload_n 2, 1) := by decide +kernel
theorem dX2_turn_10 : decode cX2_turn 10 = .ok (.iload_n 3, 1) := by decide +kernel
theorem dX2_turn_11 : decode cX2_turn 11 = .ok (.invokestatic 72, 3) := by decide +kernel
theorem dX2_turn_14 : decode cX2_turn 14 = .ok (.aload 4, 2) := by decide +kernel
theorem dX2_turn_16 : decode cX2_turn 16 = .ok (.iload_n 2, 1) := by decide +kernel
theorem dX2_turn_17 : decode cX2_turn 17 = .ok (.iload_n 3, 1) := by decide +kernel
theorem dX2_turn_18 : decode cX2_turn 18 = .ok (.invokevirtual 174, 3) := by decide +kernel
theorem dX2_turn_21 : decode cX2_turn 21 = .ok (.iload_n 3, 1) := by decide +kernel
theorem dX2_turn_22 : decode cX2_turn 22 = .ok (.iload_n 2, 1) := by decide +kernel
theorem dX2_turn_23 : decode cX2_turn 23 = .ok (.isub, 1) := by decide +kernel
theorem dX2_turn_24 : decode cX2_turn 24 = .ok (.ireturn, 1) := by decide +kernel
theorem dX2_move_0 : decode cX2_move 0 = .ok (.aload_n 0, 1) := by decide +kernel
theorem dX2_move_1 : decode cX2_move 1 = .ok (.iload_n 1, 1) := by decide +kernel
theorem dX2_move_2 : decode cX2_move 2 = .ok (.invokevirtual 38, 3) := by decide +kernel
theorem dX2_move_5 : decode cX2_move 5 = .ok (.astore 5, 2) := by decide +kernel
theorem dX2_move_7 : decode cX2_move 7 = .ok (.aload 5, 2) := by decide +kernel
theorem dX2_move_9 : decode cX2_move 9 = .ok (.iload_n 2, 1) := by decide +kernel
theorem dX2_move_10 : decode cX2_move 10 = .ok (.iload_n 3, 1) := by decide +kernel
theorem dX2_move_11 : decode cX2_move 11 = .ok (.invokestatic 72, 3) := by decide +kernel
theorem dX2_move_14 : decode cX2_move 14 = .ok (.aload_n 0, 1) := by decide +kernel
theorem dX2_move_15 : decode cX2_move 15 = .ok (.aload 5, 2) := by decide +kernel
theorem dX2_move_17 : decode cX2_move 17 = .ok (.iload_n 2, 1) := by decide +kernel
theorem dX2_move_18 : decode cX2_move 18 = .ok (.iload_n 3, 1) := by decide +kernel
theorem dX2_move_19 : decode cX2_move 19 = .ok (.iload 4, 2) := by decide +kernel
theorem dX2_move_21 : decode cX2_move 21 = .ok (.invokevirtual 177, 3) := by decide +kernel
theorem dX2_move_24 : decode cX2_move 24 = .ok (.ireturn, 1) := by decide +kernel
theorem dX2_moveRound_0 : decode cX2_moveRound 0 = .ok (.iload_n 3, 1) := by decide +kernel
theorem dX2_moveRound_1 : decode cX2_moveRound 1 = .ok (.iload_n 2, 1) := by decide +kernel
theorem dX2_moveRound_2 : decode cX2_moveRound 2 = .ok (.isub, 1) := by decide +kernel
theorem dX2_moveRound_3 : decode cX2_moveRound 3 = .ok (.istore 5, 2) := by decide +kernel
theorem dX2_moveRound_5 : decode cX2_moveRound 5 = .ok (.iload 5, 2) := by decide +kernel
theorem dX2_moveRound_7 : decode cX2_moveRound 7 = .ok (.ifCond .gt 5, 3) := by decide +kernel
theorem dX2_moveRound_10 : decode cX2_moveRound 10 = .ok (.iconst 0, 1) := by decide +kernel
theorem dX2_moveRound_11 : decode cX2_moveRound 11 = .ok (.ireturn, 1) := by decide +kernel
theorem dX2_moveRound_12 : decode cX2_moveRound 12 = .ok (.iload 4, 2) := by decide +kernel
theorem dX2_moveRound_14 : decode cX2_moveRound 14 = .ok (.iload 5, 2) := by decide +kernel
theorem dX2_moveRound_16 : decode cX2_moveRound 16 = .ok (.invokestatic 181, 3) := by decide +kernel
theorem dX2_moveRound_19 : decode cX2_moveRound 19 = .ok (.istore 6, 2) := by decide +kernel
theorem dX2_moveRound_21 : decode cX2_moveRound 21 = .ok (.aload_n 0, 1) := by decide +kernel
theorem dX2_moveRound_22 : decode cX2_moveRound 22 = .ok (.getfield 25, 3) := by decide +kernel
theorem dX2_moveRound_25 : decode cX2_moveRound 25 = .ok (.aload_n 1, 1) := by decide +kernel
theorem dX2_moveRound_26 : decode cX2_moveRound 26 = .ok (.invokevirtual 119, 3) := by decide +kernel
theorem dX2_moveRound_29 : decode cX2_moveRound 29 = .ok (.iconst 0, 1) := by decide +kernel
theorem dX2_moveRound_30 : decode cX2_moveRound 30 = .ok (.istore 7, 2) := by decide +kernel
theorem dX2_moveRound_32 : decode cX2_moveRound 32 = .ok (.iload 7, 2) := by decide +kernel
theorem dX2_moveRound_34 : decode cX2_moveRound 34 = .ok (.iload 5, 2) := by decide +kernel
theorem dX2_moveRound_36 : decode cX2_moveRound 36 = .ok (.if_icmp .ge 36, 3) := by decide +kernel
theorem dX2_moveRound_39 : decode cX2_moveRound 39 = .ok (.aload_n 1, 1) := by decide +kernel
theorem dX2_moveRound_40 : decode cX2_moveRound 40 = .ok (.getfield 83, 3) := by decide +kernel
theorem dX2_moveRound_43 : decode cX2_moveRound 43 = .ok (.iload_n 2, 1) := by decide +kernel
theorem dX2_moveRound_44 : decode cX2_moveRound 44 = .ok (.iload 7, 2) := by decide +kernel
theorem dX2_moveRound_46 : decode cX2_moveRound 46 = .ok (.iload 6, 2) := by decide +kernel
theorem dX2_moveRound_48 : decode cX2_moveRound 48 = .ok (.iadd, 1) := by decide +kernel
theorem dX2_moveRound_49 : decode cX2_moveRound 49 = .ok (.iload 5, 2) := by decide +kernel
theorem dX2_moveRound_51 : decode cX2_moveRound 51 = .ok (.irem, 1) := by decide +kernel
theorem dX2_moveRound_52 : decode cX2_moveRound 52 = .ok (.iadd, 1) := by decide +kernel
theorem dX2_moveRound_53 : decode cX2_moveRound 53 = .ok (.aload_n 0, 1) := by decide +kernel
theorem dX2_moveRound_54 : decode cX2_moveRound 54 = .ok (.getfield 25, 3) := by decide +kernel
theorem dX2_moveRound_57 : decode cX2_moveRound 57 = .ok (.getfield 83, 3) := by decide +kernel
theorem dX2_moveRound_60 : decode cX2_moveRound 60 = .ok (.iload_n 2, 1) := by decide +kernel
theorem dX2_moveRound_61 : decode cX2_moveRound 61 = .ok (.iload 7, 2) := by decide +kernel
theorem dX2_moveRound_63 : decode cX2_moveRound 63 = .ok (.iadd, 1) := by decide +kernel
theorem dX2_moveRound_64 : decode cX2_moveRound 64 = .ok (.iaload, 1) := by decide +kernel
theorem dX2_moveRound_65 : decode cX2_moveRound 65 = .ok (.iastore, 1) := by decide +kernel
theorem dX2_moveRound_66 : decode cX2_moveRound 66 = .ok (.iinc 7 1, 3) := by decide +kernel
theorem dX2_moveRound_69 : decode cX2_moveRound 69 = .ok (.goto (-37), 3) := by decide +kernel
theorem dX2_moveRound_72 : decode cX2_moveRound 72 = .ok (.iload 6, 2) := by decide +kernel
theorem dX2_moveRound_74 : decode cX2_moveRound 74 = .ok (.ireturn, 1) := by decide +kernel
theorem dX2_swap_0 : decode cX2_swap 0 = .ok (.aload_n 0, 1) := by decide +kernel
theorem dX2_swap_1 : decode cX2_swap 1 = .ok (.iload_n 1, 1) := by decide +kernel
theorem dX2_swap_2 : decode cX2_swap 2 = .ok (.invokevirtual 38, 3) := by decide +kernel
theorem dX2_swap_5 : decode cX2_swap 5 = .ok (.astore 4, 2) := by decide +kernel
theorem dX2_swap_7 : decode cX2_swap 7 = .ok (.aload 4, 2) := by decide +kernel
theorem dX2_swap_9 : decode cX2_swap 9 = .ok (.iload_n 2, 1) := by decide +kernel
theorem dX2_swap_10 : decode cX2_swap 10 = .ok (.invokestatic 80, 3) := by decide +kernel
theorem dX2_swap_13 : decode cX2_swap 13 = .ok (.aload 4, 2) := by decide +kernel
theorem dX2_swap_15 : decode cX2_swap 15 = .ok (.iload_n 3, 1) := by decide +kernel
theorem dX2_swap_16 : decode cX2_swap 16 = .ok (.invokestatic 80, 3) := by decide +kernel
theorem dX2_swap_19 : decode cX2_swap 19 = .ok (.aload 4, 2) := by decide +kernel
theorem dX2_swap_21 : decode cX2_swap 21 = .ok (.iload_n 2, 1) := by decide +kernel
theorem dX2_swap_22 : decode cX2_swap 22 = .ok (.iload_n 3, 1) := by decide +kernel
theorem dX2_swap_23 : decode cX2_swap 23 = .ok (.invokevirtual 184, 3) := by decide +kernel
theorem dX2_swap_26 : decode cX2_swap 26 = .ok (.aload 4, 2) := by decide +kernel
theorem dX2_swap_28 : decode cX2_swap 28 = .ok (.getfield 83, 3) := by decide +kernel
theorem dX2_swap_31 : decode cX2_swap 31 = .ok (.iload_n 2, 1) := by decide +kernel
theorem dX2_swap_32 : decode cX2_swap 32 = .ok (.iaload, 1) := by decide +kernel
theorem dX2_swap_33 : decode cX2_swap 33 = .ok (.ireturn, 1) := by decide +kernel
theorem dX2_fill_0 : decode cX2_fill 0 = .ok (.aload_n 0, 1) := by decide +kernel
theorem dX2_fill_1 : decode cX2_fill 1 = .ok (.iload_n 1, 1) := by decide +kernel
theorem dX2_fill_2 : decode cX2_fill 2 = .ok (.invokevirtual 38, 3) := by decide +kernel
theorem dX2_fill_5 : decode cX2_fill 5 = .ok (.astore 5, 2) := by decide +kernel
theorem dX2_fill_7 : decode cX2_fill 7 = .ok (.aload 5, 2) := by decide +kernel
theorem dX2_fill_9 : decode cX2_fill 9 = .ok (.iload_n 2, 1) := by decide +kernel
theorem dX2_fill_10 : decode cX2_fill 10 = .ok (.iload_n 3, 1) := by decide +kernel
theorem dX2_fill_11 : decode cX2_fill 11 = .ok (.invokestatic 72, 3) := by decide +kernel
theorem dX2_fill_14 : decode cX2_fill 14 = .ok (.iload 4, 2) := by decide +kernel
theorem dX2_fill_16 : decode cX2_fill 16 = .ok (.invokestatic 42, 3) := by decide +kernel
theorem dX2_fill_19 : decode cX2_fill 19 = .ok (.iconst 0, 1) := by decide +kernel
theorem dX2_fill_20 : decode cX2_fill 20 = .ok (.istore 6, 2) := by decide +kernel
theorem dX2_fill_22 : decode cX2_fill 22 = .ok (.iload_n 2, 1) := by decide +kernel
theorem dX2_fill_23 : decode cX2_fill 23 = .ok (.istore 7, 2) := by decide +kernel
theorem dX2_fill_25 : decode cX2_fill 25 = .ok (.iload 7, 2) := by decide +kernel
theorem dX2_fill_27 : decode cX2_fill 27 = .ok (.iload_n 3, 1) := by decide +kernel
theorem dX2_fill_28 : decode cX2_fill 28 = .ok (.if_icmp .ge 35, 3) := by decide +kernel
theorem dX2_fill_31 : decode cX2_fill 31 = .ok (.aload 5, 2) := by decide +kernel
theorem dX2_fill_33 : decode cX2_fill 33 = .ok (.getfield 83, 3) := by decide +kernel
theorem dX2_fill_36 : decode cX2_fill 36 = .ok (.iload 7, 2) := by decide +kernel
theorem dX2_fill_38 : decode cX2_fill 38 = .ok (.iaload, 1) := by decide +kernel
theorem dX2_fill_39 : decode cX2_fill 39 = .ok (.iload 4, 2) := by decide +kernel
theorem dX2_fill_41 : decode cX2_fill 41 = .ok (.if_icmp .eq 16, 3) := by decide +kernel
theorem dX2_fill_44 : decode cX2_fill 44 = .ok (.aload 5, 2) := by decide +kernel
theorem dX2_fill_46 : decode cX2_fill 46 = .ok (.getfield 83, 3) := by decide +kernel
theorem dX2_fill_49 : decode cX2_fill 49 = .ok (.iload 7, 2) := by decide +kernel
theorem dX2_fill_51 : decode cX2_fill 51 = .ok (.iload 4, 2) := by decide +kernel
theorem dX2_fill_53 : decode cX2_fill 53 = .ok (.iastore, 1) := by decide +kernel
theorem dX2_fill_54 : decode cX2_fill 54 = .ok (.iinc 6 1, 3) := by decide +kernel
theorem dX2_fill_57 : decode cX2_fill 57 = .ok (.iinc 7 1, 3) := by decide +kernel
theorem dX2_fill_60 : decode cX2_fill 60 = .ok (.goto (-35), 3) := by decide +kernel
theorem dX2_fill_63 : decode cX2_fill 63 = .ok (.iload 6, 2) := by decide +kernel
theorem dX2_fill_65 : decode cX2_fill 65 = .ok (.ireturn, 1) := by decide +kernel
theorem dX2_copy_0 : decode cX2_copy 0 = .ok (.aload_n 0, 1) := by decide +kernel
theorem dX2_copy_1 : decode cX2_copy 1 = .ok (.iload_n 1, 1) := by decide +kernel
theorem dX2_copy_2 : decode cX2_copy 2 = .ok (.invokevirtual 38, 3) := by decide +kernel
theorem dX2_copy_5 : decode cX2_copy 5 = .ok (.astore_n 3, 1) := by decide +kernel
theorem dX2_copy_6 : decode cX2_copy 6 = .ok (.aload_n 0, 1) := by decide +kernel
theorem dX2_copy_7 : decode cX2_copy 7 = .ok (.iload_n 2, 1) := by decide +kernel
theorem dX2_copy_8 : decode cX2_copy 8 = .ok (.invokevirtual 38, 3) := by decide +kernel
theorem dX2_copy_11 : decode cX2_copy 11 = .ok (.astore 4, 2) := by decide +kernel
theorem dX2_copy_13 : decode cX2_copy 13 = .ok (.aload 4, 2) := by decide +kernel
theorem dX2_copy_15 : decode cX2_copy 15 = .ok (.getfield 53, 3) := by decide +kernel
theorem dX2_copy_18 : decode cX2_copy 18 = .ok (.aload_n 3, 1) := by decide +kernel
theorem dX2_copy_19 : decode cX2_copy 19 = .ok (.getfield 53, 3) := by decide +kernel
theorem dX2_copy_22 : decode cX2_copy 22 = .ok (.if_icmp .ge 13, 3) := by decide +kernel
theorem dX2_copy_25 : decode cX2_copy 25 = .ok (.new 92, 3) := by decide +kernel
theorem dX2_copy_28 : decode cX2_copy 28 = .ok (.dup, 1) := by decide +kernel
theorem dX2_copy_29 : decode cX2_copy 29 = .ok (.ldc 187, 2) := by decide +kernel
theorem dX2_copy_31 : decode cX2_copy 31 = .ok (.invokespecial 96, 3) := by decide +kernel
theorem dX2_copy_34 : decode cX2_copy 34 = .ok (.athrow, 1) := by decide +kernel
theorem dX2_copy_35 : decode cX2_copy 35 = .ok (.iconst 0, 1) := by decide +kernel
theorem dX2_copy_36 : decode cX2_copy 36 = .ok (.istore 5, 2) := by decide +kernel
theorem dX2_copy_38 : decode cX2_copy 38 = .ok (.iload 5, 2) := by decide +kernel
theorem dX2_copy_40 : decode cX2_copy 40 = .ok (.aload_n 3, 1) := by decide +kernel
theorem dX2_copy_41 : decode cX2_copy 41 = .ok (.getfield 53, 3) := by decide +kernel
theorem dX2_copy_44 : decode cX2_copy 44 = .ok (.if_icmp .ge 24, 3) := by decide +kernel
theorem dX2_copy_47 : decode cX2_copy 47 = .ok (.aload 4, 2) := by decide +kernel
theorem dX2_copy_49 : decode cX2_copy 49 = .ok (.getfield 83, 3) := by decide +kernel
theorem dX2_copy_52 : decode cX2_copy 52 = .ok (.iload 5, 2) := by decide +kernel
theorem dX2_copy_54 : decode cX2_copy 54 = .ok (.aload_n 3, 1) := by decide +kernel
theorem dX2_copy_55 : decode cX2_copy 55 = .ok (.getfield 83, 3) := by decide +kernel
theorem dX2_copy_58 : decode cX2_copy 58 = .ok (.iload 5, 2) := by decide +kernel
theorem dX2_copy_60 : decode cX2_copy 60 = .ok (.iaload, 1) := by decide +kernel
theorem dX2_copy_61 : decode cX2_copy 61 = .ok (.iastore, 1) := by decide +kernel
theorem dX2_copy_62 : decode cX2_copy 62 = .ok (.iinc 5 1, 3) := by decide +kernel
theorem dX2_copy_65 : decode cX2_copy 65 = .ok (.goto (-27), 3) := by decide +kernel
theorem dX2_copy_68 : decode cX2_copy 68 = .ok (.aload 4, 2) := by decide +kernel
theorem dX2_copy_70 : decode cX2_copy 70 = .ok (.getfield 53, 3) := by decide +kernel
theorem dX2_copy_73 : decode cX2_copy 73 = .ok (.ireturn, 1) := by decide +kernel
theorem dX2_stands_0 : decode cX2_stands 0 = .ok (.iload_n 1, 1) := by decide +kernel
theorem dX2_stands_1 : decode cX2_stands 1 = .ok (.invokestatic 42, 3) := by decide +kernel
theorem dX2_stands_4 : decode cX2_stands 4 = .ok (.iconst 0, 1) := by decide +kernel
theorem dX2_stands_5 : decode cX2_stands 5 = .ok (.istore_n 3, 1) := by decide +kernel
theorem dX2_stands_6 : decode cX2_stands 6 = .ok (.iconst 0, 1) := by decide +kernel
theorem dX2_stands_7 : decode cX2_stands 7 = .ok (.istore 4, 2) := by decide +kernel
theorem dX2_stands_9 : decode cX2_stands 9 = .ok (.iload 4, 2) := by decide +kernel
theorem dX2_stands_11 : decode cX2_stands 11 = .ok (.iconst 4, 1) := by decide +kernel
theorem dX2_stands_12 : decode cX2_stands 12 = .ok (.if_icmp .ge 66, 3) := by decide +kernel
theorem dX2_stands_15 : decode cX2_stands 15 = .ok (.aload_n 0, 1) := by decide +kernel
theorem dX2_stands_16 : decode cX2_stands 16 = .ok (.getfield 11, 3) := by decide +kernel
theorem dX2_stands_19 : decode cX2_stands 19 = .ok (.iload 4, 2) := by decide +kernel
theorem dX2_stands_21 : decode cX2_stands 21 = .ok (.aaload, 1) := by decide +kernel
theorem dX2_stands_22 : decode cX2_stands 22 = .ok (.astore 5, 2) := by decide +kernel
theorem dX2_stands_24 : decode cX2_stands 24 = .ok (.iconst 0, 1) := by decide +kernel
theorem dX2_stands_25 : decode cX2_stands 25 = .ok (.istore 6, 2) := by decide +kernel
theorem dX2_stands_27 : decode cX2_stands 27 = .ok (.iload 6, 2) := by decide +kernel
theorem dX2_stands_29 : decode cX2_stands 29 = .ok (.aload 5, 2) := by decide +kernel
theorem dX2_stands_31 : decode cX2_stands 31 = .ok (.getfield 53, 3) := by decide +kernel
theorem dX2_stands_34 : decode cX2_stands 34 = .ok (.if_icmp .ge 38, 3) := by decide +kernel
theorem dX2_stands_37 : decode cX2_stands 37 = .ok (.aload 5, 2) := by decide +kernel
theorem dX2_stands_39 : decode cX2_stands 39 = .ok (.getfield 83, 3) := by decide +kernel
theorem dX2_stands_42 : decode cX2_stands 42 = .ok (.iload 6, 2) := by decide +kernel
theorem dX2_stands_44 : decode cX2_stands 44 = .ok (.iaload, 1) := by decide +kernel
theorem dX2_stands_45 : decode cX2_stands 45 = .ok (.iload_n 1, 1) := by decide +kernel
theorem dX2_stands_46 : decode cX2_stands 46 = .ok (.if_icmp .ne 20, 3) := by decide +kernel
theorem dX2_stands_49 : decode cX2_stands 49 = .ok (.iload_n 3, 1) := by decide +kernel
theorem dX2_stands_50 : decode cX2_stands 50 = .ok (.iload_n 2, 1) := by decide +kernel
theorem dX2_stands_51 : decode cX2_stands 51 = .ok (.if_icmp .ne 12, 3) := by decide +kernel
theorem dX2_stands_54 : decode cX2_stands 54 = .ok (.iload 4, 2) := by decide +kernel
theorem dX2_stands_56 : decode cX2_stands 56 = .ok (.bipush 100, 2) := by decide +kernel
theorem dX2_stands_58 : decode cX2_stands 58 = .ok (.imul, 1) := by decide +kernel
theorem dX2_stands_59 : decode cX2_stands 59 = .ok (.iload 6, 2) := by decide +kernel
theorem dX2_stands_61 : decode cX2_stands 61 = .ok (.iadd, 1) := by decide +kernel
theorem dX2_stands_62 : decode cX2_stands 62 = .ok (.ireturn, 1) := by decide +kernel
theorem dX2_stands_63 : decode cX2_stands 63 = .ok (.iinc 3 1, 3) := by decide +kernel
theorem dX2_stands_66 : decode cX2_stands 66 = .ok (.iinc 6 1, 3) := by decide +kernel
theorem dX2_stands_69 : decode cX2_stands 69 = .ok (.goto (-42), 3) := by decide +kernel
theorem dX2_stands_72 : decode cX2_stands 72 = .ok (.iinc 4 1, 3) := by decide +kernel
theorem dX2_stands_75 : decode cX2_stands 75 = .ok (.goto (-66), 3) := by decide +kernel
theorem dX2_stands_78 : decode cX2_stands 78 = .ok (.new 189, 3) := by decide +kernel
theorem dX2_stands_81 : decode cX2_stands 81 = .ok (.dup, 1) := by decide +kernel
theorem dX2_stands_82 : decode cX2_stands 82 = .ok (.ldc 191, 2) := by decide +kernel
theorem dX2_stands_84 : decode cX2_stands 84 = .ok (.invokespecial 193, 3) := by decide +kernel
theorem dX2_stands_87 : decode cX2_stands 87 = .ok (.athrow, 1) := by decide +kernel
theorem dX2_near_0 : decode cX2_near 0 = .ok (.aload_n 0, 1) := by decide +kernel
theorem dX2_near_1 : decode cX2_near 1 = .ok (.iload_n 1, 1) := by decide +kernel
theorem dX2_near_2 : decode cX2_near 2 = .ok (.invokevirtual 38, 3) := by decide +kernel
theorem dX2_near_5 : decode cX2_near 5 = .ok (.astore 4, 2) := by decide +kernel
theorem dX2_near_7 : decode cX2_near 7 = .ok (.aload 4, 2) := by decide +kernel
theorem dX2_near_9 : decode cX2_near 9 = .ok (.iload_n 2, 1) := by decide +kernel
theorem dX2_near_10 : decode cX2_near 10 = .ok (.invokestatic 80, 3) := by decide +kernel
theorem dX2_near_13 : decode cX2_near 13 = .ok (.iload_n 3, 1) := by decide +kernel
theorem dX2_near_14 : decode cX2_near 14 = .ok (.invokestatic 42, 3) := by decide +kernel
theorem dX2_near_17 : decode cX2_near 17 = .ok (.iconst (-1), 1) := by decide +kernel
theorem dX2_near_18 : decode cX2_near 18 = .ok (.istore 5, 2) := by decide +kernel
theorem dX2_near_20 : decode cX2_near 20 = .ok (.iconst 0, 1) := by decide +kernel
theorem dX2_near_21 : decode cX2_near 21 = .ok (.istore 6, 2) := by decide +kernel
theorem dX2_near_23 : decode cX2_near 23 = .ok (.iload 6, 2) := by decide +kernel
theorem dX2_near_25 : decode cX2_near 25 = .ok (.aload 4, 2) := by decide +kernel
theorem dX2_near_27 : decode cX2_near 27 = .ok (.getfield 53, 3) := by decide +kernel
theorem dX2_near_30 : decode cX2_near 30 = .ok (.if_icmp .ge 48, 3) := by decide +kernel
theorem dX2_near_33 : decode cX2_near 33 = .ok (.aload 4, 2) := by decide +kernel
theorem dX2_near_35 : decode cX2_near 35 = .ok (.getfield 83, 3) := by decide +kernel
theorem dX2_near_38 : decode cX2_near 38 = .ok (.iload 6, 2) := by decide +kernel
theorem dX2_near_40 : decode cX2_near 40 = .ok (.iaload, 1) := by decide +kernel
theorem dX2_near_41 : decode cX2_near 41 = .ok (.iload_n 3, 1) := by decide +kernel
theorem dX2_near_42 : decode cX2_near 42 = .ok (.if_icmp .ne 30, 3) := by decide +kernel
theorem dX2_near_45 : decode cX2_near 45 = .ok (.iload 5, 2) := by decide +kernel
theorem dX2_near_47 : decode cX2_near 47 = .ok (.iconst (-1), 1) := by decide +kernel
theorem dX2_near_48 : decode cX2_near 48 = .ok (.if_icmp .eq 20, 3) := by decide +kernel
theorem dX2_near_51 : decode cX2_near 51 = .ok (.iload 6, 2) := by decide +kernel
theorem dX2_near_53 : decode cX2_near 53 = .ok (.iload_n 2, 1) := by decide +kernel
theorem dX2_near_54 : decode cX2_near 54 = .ok (.isub, 1) := by decide +kernel
theorem dX2_near_55 : decode cX2_near 55 = .ok (.invokestatic 194, 3) := by decide +kernel
theorem dX2_near_58 : decode cX2_near 58 = .ok (.iload 5, 2) := by decide +kernel
theorem dX2_near_60 : decode cX2_near 60 = .ok (.iload_n 2, 1) := by decide +kernel
theorem dX2_near_61 : decode cX2_near 61 = .ok (.isub, 1) := by decide +kernel
theorem dX2_near_62 : decode cX2_near 62 = .ok (.invokestatic 194, 3) := by decide +kernel
theorem dX2_near_65 : decode cX2_near 65 = .ok (.if_icmp .ge 7, 3) := by decide +kernel
theorem dX2_near_68 : decode cX2_near 68 = .ok (.iload 6, 2) := by decide +kernel
theorem dX2_near_70 : decode cX2_near 70 = .ok (.istore 5, 2) := by decide +kernel
theorem dX2_near_72 : decode cX2_near 72 = .ok (.iinc 6 1, 3) := by decide +kernel
theorem dX2_near_75 : decode cX2_near 75 = .ok (.goto (-52), 3) := by decide +kernel
theorem dX2_near_78 : decode cX2_near 78 = .ok (.iload 5, 2) := by decide +kernel
theorem dX2_near_80 : decode cX2_near 80 = .ok (.ireturn, 1) := by decide +kernel
theorem dX2_common_0 : decode cX2_common 0 = .ok (.aload_n 0, 1) := by decide +kernel
theorem dX2_common_1 : decode cX2_common 1 = .ok (.iload_n 1, 1) := by decide +kernel
theorem dX2_common_2 : decode cX2_common 2 = .ok (.invokevirtual 38, 3) := by decide +kernel
theorem dX2_common_5 : decode cX2_common 5 = .ok (.astore 4, 2) := by decide +kernel
theorem dX2_common_7 : decode cX2_common 7 = .ok (.aload_n 0, 1) := by decide +kernel
theorem dX2_common_8 : decode cX2_common 8 = .ok (.iload_n 2, 1) := by decide +kernel
theorem dX2_common_9 : decode cX2_common 9 = .ok (.invokevirtual 38, 3) := by decide +kernel
theorem dX2_common_12 : decode cX2_common 12 = .ok (.astore 5, 2) := by decide +kernel
theorem dX2_common_14 : decode cX2_common 14 = .ok (.iload_n 3, 1) := by decide +kernel
theorem dX2_common_15 : decode cX2_common 15 = .ok (.iconst 0, 1) := by decide +kernel
theorem dX2_common_16 : decode cX2_common 16 = .ok (.iconst 2, 1) := by decide +kernel
theorem dX2_common_17 : decode cX2_common 17 = .ok (.invokestatic 60, 3) := by decide +kernel
theorem dX2_common_20 : decode cX2_common 20 = .ok (.aload_n 0, 1) := by decide +kernel
theorem dX2_common_21 : decode cX2_common 21 = .ok (.invokevirtual 197, 3) := by decide +kernel
theorem dX2_common_24 : decode cX2_common 24 = .ok (.iconst 0, 1) := by decide +kernel
theorem dX2_common_25 : decode cX2_common 25 = .ok (.istore 6, 2) := by decide +kernel
theorem dX2_common_27 : decode cX2_common 27 = .ok (.iconst 0, 1) := by decide +kernel
theorem dX2_common_28 : decode cX2_common 28 = .ok (.istore 7, 2) := by decide +kernel
theorem dX2_common_30 : decode cX2_common 30 = .ok (.iconst 0, 1) := by decide +kernel
theorem dX2_common_31 : decode cX2_common 31 = .ok (.istore 8, 2) := by decide +kernel
theorem dX2_common_33 : decode cX2_common 33 = .ok (.aload 4, 2) := by decide +kernel
theorem dX2_common_35 : decode cX2_common 35 = .ok (.getfield 53, 3) := by decide +kernel
theorem dX2_common_38 : decode cX2_common 38 = .ok (.iconst 1, 1) := by decide +kernel
theorem dX2_common_39 : decode cX2_common 39 = .ok (.isub, 1) := by decide +kernel
theorem dX2_common_40 : decode cX2_common 40 = .ok (.istore 9, 2) := by decide +kernel
theorem dX2_common_42 : decode cX2_common 42 = .ok (.iload 9, 2) := by decide +kernel
theorem dX2_common_44 : decode cX2_common 44 = .ok (.ifCond .lt 56, 3) := by decide +kernel
theorem dX2_common_47 : decode cX2_common 47 = .ok (.aload_n 0, 1) := by decide +kernel
theorem dX2_common_48 : decode cX2_common 48 = .ok (.aload 4, 2) := by decide +kernel
theorem dX2_common_50 : decode cX2_common 50 = .ok (.iload 9, 2) := by decide +kernel
theorem dX2_common_52 : decode cX2_common 52 = .ok (.aload 5, 2) := by decide +kernel
theorem dX2_common_54 : decode cX2_common 54 = .ok (.invokevirtual 200, 3) := by decide +kernel
theorem dX2_common_57 : decode cX2_common 57 = .ok (.istore 10, 2) := by decide +kernel
theorem dX2_common_59 : decode cX2_common 59 = .ok (.iload 10, 2) := by decide +kernel
theorem dX2_common_61 : decode cX2_common 61 = .ok (.iconst (-1), 1) := by decide +kernel
theorem dX2_common_62 : decode cX2_common 62 = .ok (.if_icmp .eq 32, 3) := by decide +kernel
theorem dX2_common_65 : decode cX2_common 65 = .ok (.aload_n 0, 1) := by decide +kernel
theorem dX2_common_66 : decode cX2_common 66 = .ok (.getfield 35, 3) := by decide +kernel
theorem dX2_common_69 : decode cX2_common 69 = .ok (.iload 10, 2) := by decide +kernel
theorem dX2_common_71 : decode cX2_common 71 = .ok (.iaload, 1) := by decide +kernel
theorem dX2_common_72 : decode cX2_common 72 = .ok (.iload 6, 2) := by decide +kernel
theorem dX2_common_74 : decode cX2_common 74 = .ok (.if_icmp .lt 20, 3) := by decide +kernel
theorem dX2_common_77 : decode cX2_common 77 = .ok (.aload_n 0, 1) := by decide +kernel
theorem dX2_common_78 : decode cX2_common 78 = .ok (.getfield 35, 3) := by decide +kernel
theorem dX2_common_81 : decode cX2_common 81 = .ok (.iload 10, 2) := by decide +kernel
theorem dX2_common_83 : decode cX2_common 83 = .ok (.iaload, 1) := by decide +kernel
theorem dX2_common_84 : decode cX2_common 84 = .ok (.istore 6, 2) := by decide +kernel
theorem dX2_common_86 : decode cX2_common 86 = .ok (.iload 9, 2) := by decide +kernel
theorem dX2_common_88 : decode cX2_common 88 = .ok (.istore 7, 2) := by decide +kernel
theorem dX2_common_90 : decode cX2_common 90 = .ok (.iload 10, 2) := by decide +kernel
theorem dX2_common_92 : decode cX2_common 92 = .ok (.istore 8, 2) := by decide +kernel
theorem dX2_common_94 : decode cX2_common 94 = .ok (.iinc 9 (-1), 3) := by decide +kernel
theorem dX2_common_97 : decode cX2_common 97 = .ok (.goto (-55), 3) := by decide +kernel
theorem dX2_common_100 : decode cX2_common 100 = .ok (.iload_n 3, 1) := by decide +kernel
theorem dX2_common_101 : decode cX2_common 101 = .ok (.ifCond .ne 8, 3) := by decide +kernel
theorem dX2_common_104 : decode cX2_common 104 = .ok (.iload 6, 2) := by decide +kernel
theorem dX2_common_106 : decode cX2_common 106 = .ok (.goto 15, 3) := by decide +kernel
theorem dX2_common_109 : decode cX2_common 109 = .ok (.iload_n 3, 1) := by decide +kernel
theorem dX2_common_110 : decode cX2_common 110 = .ok (.iconst 1, 1) := by decide +kernel
theorem dX2_common_111 : decode cX2_common 111 = .ok (.if_icmp .ne 8, 3) := by decide +kernel
theorem dX2_common_114 : decode cX2_common 114 = .ok (.iload 7, 2) := by decide +kernel
theorem dX2_common_116 : decode cX2_common 116 = .ok (.goto 5, 3) := by decide +kernel
theorem dX2_common_119 : decode cX2_common 119 = .ok (.iload 8, 2) := by decide +kernel
theorem dX2_common_121 : decode cX2_common 121 = .ok (.ireturn, 1) := by decide +kernel
theorem dX2_clearRuns_0 : decode cX2_clearRuns 0 = .ok (.iconst 0, 1) := by decide +kernel
theorem dX2_clearRuns_1 : decode cX2_clearRuns 1 = .ok (.istore_n 1, 1) := by decide +kernel
theorem dX2_clearRuns_2 : decode cX2_clearRuns 2 = .ok (.iload_n 1, 1) := by decide +kernel
theorem dX2_clearRuns_3 : decode cX2_clearRuns 3 = .ok (.aload_n 0, 1) := by decide +kernel
theorem dX2_clearRuns_4 : decode cX2_clearRuns 4 = .ok (.getfield 35, 3) := by decide +kernel
theorem dX2_clearRuns_7 : decode cX2_clearRuns 7 = .ok (.arraylength, 1) := by decide +kernel
theorem dX2_clearRuns_8 : decode cX2_clearRuns 8 = .ok (.if_icmp .ge 16, 3) := by decide +kernel
theorem dX2_clearRuns_11 : decode cX2_clearRuns 11 = .ok (.aload_n 0, 1) := by decide +kernel
theorem dX2_clearRuns_12 : decode cX2_clearRuns 12 = .ok (.getfield 35, 3) := by decide +kernel
theorem dX2_clearRuns_15 : decode cX2_clearRuns 15 = .ok (.iload_n 1, 1) := by decide +kernel
theorem dX2_clearRuns_16 : decode cX2_clearRuns 16 = .ok (.iconst 0, 1) := by decide +kernel
theorem dX2_clearRuns_17 : decode cX2_clearRuns 17 = .ok (.iastore, 1) := by decide +kernel
theorem dX2_clearRuns_18 : decode cX2_clearRuns 18 = .ok (.iinc 1 1, 3) := by decide +kernel
theorem dX2_clearRuns_21 : decode cX2_clearRuns 21 = .ok (.goto (-19), 3) := by decide +kernel
theorem dX2_clearRuns_24 : decode cX2_clearRuns 24 = .ok (.return_, 1) := by decide +kernel
theorem dX2_longestRunFrom_0 : decode cX2_longestRunFrom 0 = .ok (.iconst (-1), 1) := by decide +kernel
theorem dX2_longestRunFrom_1 : decode cX2_longestRunFrom 1 = .ok (.istore 4, 2) := by decide +kernel
theorem dX2_longestRunFrom_3 : decode cX2_longestRunFrom 3 = .ok (.iconst 0, 1) := by decide +kernel
theorem dX2_longestRunFrom_4 : decode cX2_longestRunFrom 4 = .ok (.istore 5, 2) := by decide +kernel
theorem dX2_longestRunFrom_6 : decode cX2_longestRunFrom 6 = .ok (.iconst 0, 1) := by decide +kernel
theorem dX2_longestRunFrom_7 : decode cX2_longestRunFrom 7 = .ok (.istore 6, 2) := by decide +kernel
theorem dX2_longestRunFrom_9 : decode cX2_longestRunFrom 9 = .ok (.iload 6, 2) := by decide +kernel
theorem dX2_longestRunFrom_11 : decode cX2_longestRunFrom 11 = .ok (.aload_n 3, 1) := by decide +kernel
theorem dX2_longestRunFrom_12 : decode cX2_longestRunFrom 12 = .ok (.getfield 53, 3) := by decide +kernel
theorem dX2_longestRunFrom_15 : decode cX2_longestRunFrom 15 = .ok (.if_icmp .ge 72, 3) := by decide +kernel
theorem dX2_longestRunFrom_18 : decode cX2_longestRunFrom 18 = .ok (.aload_n 0, 1) := by decide +kernel
theorem dX2_longestRunFrom_19 : decode cX2_longestRunFrom 19 = .ok (.getfield 35, 3) := by decide +kernel
theorem dX2_longestRunFrom_22 : decode cX2_longestRunFrom 22 = .ok (.iload 6, 2) := by decide +kernel
theorem dX2_longestRunFrom_24 : decode cX2_longestRunFrom 24 = .ok (.aload_n 3, 1) := by decide +kernel
theorem dX2_longestRunFrom_25 : decode cX2_longestRunFrom 25 = .ok (.getfield 83, 3) := by decide +kernel
theorem dX2_longestRunFrom_28 : decode cX2_longestRunFrom 28 = .ok (.iload 6, 2) := by decide +kernel
theorem dX2_longestRunFrom_30 : decode cX2_longestRunFrom 30 = .ok (.iaload, 1) := by decide +kernel
theorem dX2_longestRunFrom_31 : decode cX2_longestRunFrom 31 = .ok (.aload_n 1, 1) := by decide +kernel
theorem dX2_longestRunFrom_32 : decode cX2_longestRunFrom 32 = .ok (.getfield 83, 3) := by decide +kernel
theorem dX2_longestRunFrom_35 : decode cX2_longestRunFrom 35 = .ok (.iload_n 2, 1) := by decide +kernel
theorem dX2_longestRunFrom_36 : decode cX2_longestRunFrom 36 = .ok (.iaload, 1) := by decide +kernel
theorem dX2_longestRunFrom_37 : decode cX2_longestRunFrom 37 = .ok (.if_icmp .ne 17, 3) := by decide +kernel
theorem dX2_longestRunFrom_40 : decode cX2_longestRunFrom 40 = .ok (.aload_n 0, 1) := by decide +kernel
theorem dX2_longestRunFrom_41 : decode cX2_longestRunFrom 41 = .ok (.getfield 35, 3) := by decide +kernel
theorem dX2_longestRunFrom_44 : decode cX2_longestRunFrom 44 = .ok (.iload 6, 2) := by decide +kernel
theorem dX2_longestRunFrom_46 : decode cX2_longestRunFrom 46 = .ok (.iconst 1, 1) := by decide +kernel
theorem dX2_longestRunFrom_47 : decode cX2_longestRunFrom 47 = .ok (.iadd, 1) := by decide +kernel
theorem dX2_longestRunFrom_48 : decode cX2_longestRunFrom 48 = .ok (.iaload, 1) := by decide +kernel
theorem dX2_longestRunFrom_49 : decode cX2_longestRunFrom 49 = .ok (.iconst 1, 1) := by decide +kernel
theorem dX2_longestRunFrom_50 : decode cX2_longestRunFrom 50 = .ok (.iadd, 1) := by decide +kernel
theorem dX2_longestRunFrom_51 : decode cX2_longestRunFrom 51 = .ok (.goto 4, 3) := by decide +kernel
theorem dX2_longestRunFrom_54 : decode cX2_longestRunFrom 54 = .ok (.iconst 0, 1) := by decide +kernel
theorem dX2_longestRunFrom_55 : decode cX2_longestRunFrom 55 = .ok (.iastore, 1) := by decide +kernel
theorem dX2_longestRunFrom_56 : decode cX2_longestRunFrom 56 = .ok (.aload_n 0, 1) := by decide +kernel
theorem dX2_longestRunFrom_57 : decode cX2_longestRunFrom 57 = .ok (.getfield 35, 3) := by decide +kernel
theorem dX2_longestRunFrom_60 : decode cX2_longestRunFrom 60 = .ok (.iload 6, 2) := by decide +kernel
theorem dX2_longestRunFrom_62 : decode cX2_longestRunFrom 62 = .ok (.iaload, 1) := by decide +kernel
theorem dX2_longestRunFrom_63 : decode cX2_longestRunFrom 63 = .ok (.iload 5, 2) := by decide +kernel
theorem dX2_longestRunFrom_65 : decode cX2_longestRunFrom 65 = .ok (.if_icmp .le 16, 3) := by decide +kernel
theorem dX2_longestRunFrom_68 : decode cX2_longestRunFrom 68 = .ok (.aload_n 0, 1) := by decide +kernel
theorem dX2_longestRunFrom_69 : decode cX2_longestRunFrom 69 = .ok (.getfield 35, 3) := by decide +kernel
theorem dX2_longestRunFrom_72 : decode cX2_longestRunFrom 72 = .ok (.iload 6, 2) := by decide +kernel
theorem dX2_longestRunFrom_74 : decode cX2_longestRunFrom 74 = .ok (.iaload, 1) := by decide +kernel
theorem dX2_longestRunFrom_75 : decode cX2_longestRunFrom 75 = .ok (.istore 5, 2) := by decide +kernel
theorem dX2_longestRunFrom_77 : decode cX2_longestRunFrom 77 = .ok (.iload 6, 2) := by decide +kernel
theorem dX2_longestRunFrom_79 : decode cX2_longestRunFrom 79 = .ok (.istore 4, 2) := by decide +kernel
theorem dX2_longestRunFrom_81 : decode cX2_longestRunFrom 81 = .ok (.iinc 6 1, 3) := by decide +kernel
theorem dX2_longestRunFrom_84 : decode cX2_longestRunFrom 84 = .ok (.goto (-75), 3) := by decide +kernel
theorem dX2_longestRunFrom_87 : decode cX2_longestRunFrom 87 = .ok (.iload 4, 2) := by decide +kernel
theorem dX2_longestRunFrom_89 : decode cX2_longestRunFrom 89 = .ok (.ireturn, 1) := by decide +kernel
theorem dX2_refuses_0 : decode cX2_refuses 0 = .ok (.iload_n 1, 1) := by decide +kernel
theorem dX2_refuses_1 : decode cX2_refuses 1 = .ok (.iconst 0, 1) := by decide +kernel
theorem dX2_refuses_2 : decode cX2_refuses 2 = .ok (.iconst 4, 1) := by decide +kernel
theorem dX2_refuses_3 : decode cX2_refuses 3 = .ok (.invokestatic 60, 3) := by decide +kernel
theorem dX2_refuses_6 : decode cX2_refuses 6 = .ok (.iload_n 1, 1) := by decide +kernel
theorem dX2_refuses_7 : decode cX2_refuses 7 = .ok (.invokestatic 204, 3) := by decide +kernel
theorem dX2_refuses_10 : decode cX2_refuses 10 = .ok (.ireturn, 1) := by decide +kernel
theorem dX2_isRefused_0 : decode cX2_isRefused 0 = .ok (.iload_n 0, 1) := by decide +kernel
theorem dX2_isRefused_1 : decode cX2_isRefused 1 = .ok (.invokestatic 207, 3) := by decide +kernel
theorem dX2_isRefused_4 : decode cX2_isRefused 4 = .ok (.goto 48, 3) := by decide +kernel
theorem dX2_isRefused_7 : decode cX2_isRefused 7 = .ok (.astore_n 1, 1) := by decide +kernel
theorem dX2_isRefused_8 : decode cX2_isRefused 8 = .ok (.iload_n 0, 1) := by decide +kernel
theorem dX2_isRefused_9 : decode cX2_isRefused 9 = .ok (.ifCond .eq 13, 3) := by decide +kernel
theorem dX2_isRefused_12 : decode cX2_isRefused 12 = .ok (.iload_n 0, 1) := by decide +kernel
theorem dX2_isRefused_13 : decode cX2_isRefused 13 = .ok (.iconst 1, 1) := by decide +kernel
theorem dX2_isRefused_14 : decode cX2_isRefused 14 = .ok (.if_icmp .eq 8, 3) := by decide +kernel
theorem dX2_isRefused_17 : decode cX2_isRefused 17 = .ok (.iload_n 0, 1) := by decide +kernel
theorem dX2_isRefused_18 : decode cX2_isRefused 18 = .ok (.iconst 2, 1) := by decide +kernel
theorem dX2_isRefused_19 : decode cX2_isRefused 19 = .ok (.if_icmp .ne 7, 3) := by decide +kernel
theorem dX2_isRefused_22 : decode cX2_isRefused 22 = .ok (.iconst 1, 1) := by decide +kernel
theorem dX2_isRefused_23 : decode cX2_isRefused 23 = .ok (.goto 4, 3) := by decide +kernel
theorem dX2_isRefused_26 : decode cX2_isRefused 26 = .ok (.iconst 0, 1) := by decide +kernel
theorem dX2_isRefused_27 : decode cX2_isRefused 27 = .ok (.ireturn, 1) := by decide +kernel
theorem dX2_isRefused_28 : decode cX2_isRefused 28 = .ok (.astore_n 1, 1) := by decide +kernel
theorem dX2_isRefused_29 : decode cX2_isRefused 29 = .ok (.iload_n 0, 1) := by decide +kernel
theorem dX2_isRefused_30 : decode cX2_isRefused 30 = .ok (.iconst 3, 1) := by decide +kernel
theorem dX2_isRefused_31 : decode cX2_isRefused 31 = .ok (.if_icmp .ne 7, 3) := by decide +kernel
theorem dX2_isRefused_34 : decode cX2_isRefused 34 = .ok (.iconst 1, 1) := by decide +kernel
theorem dX2_isRefused_35 : decode cX2_isRefused 35 = .ok (.goto 4, 3) := by decide +kernel
theorem dX2_isRefused_38 : decode cX2_isRefused 38 = .ok (.iconst 0, 1) := by decide +kernel
theorem dX2_isRefused_39 : decode cX2_isRefused 39 = .ok (.ireturn, 1) := by decide +kernel
theorem dX2_isRefused_40 : decode cX2_isRefused 40 = .ok (.astore_n 1, 1) := by decide +kernel
theorem dX2_isRefused_41 : decode cX2_isRefused 41 = .ok (.iload_n 0, 1) := by decide +kernel
theorem dX2_isRefused_42 : decode cX2_isRefused 42 = .ok (.iconst 4, 1) := by decide +kernel
theorem dX2_isRefused_43 : decode cX2_isRefused 43 = .ok (.if_icmp .ne 7, 3) := by decide +kernel
theorem dX2_isRefused_46 : decode cX2_isRefused 46 = .ok (.iconst 1, 1) := by decide +kernel
theorem dX2_isRefused_47 : decode cX2_isRefused 47 = .ok (.goto 4, 3) := by decide +kernel
theorem dX2_isRefused_50 : decode cX2_isRefused 50 = .ok (.iconst 0, 1) := by decide +kernel
theorem dX2_isRefused_51 : decode cX2_isRefused 51 = .ok (.ireturn, 1) := by decide +kernel
theorem dX2_isRefused_52 : decode cX2_isRefused 52 = .ok (.iconst 0, 1) := by decide +kernel
theorem dX2_isRefused_53 : decode cX2_isRefused 53 = .ok (.ireturn, 1) := by decide +kernel
theorem dX2_attempt_0 : decode cX2_attempt 0 = .ok (.iload_n 0, 1) := by decide +kernel
theorem dX2_attempt_1 : decode cX2_attempt 1 = .ok (.iconst 4, 1) := by decide +kernel
theorem dX2_attempt_2 : decode cX2_attempt 2 = .ok (.if_icmp .ne 7, 3) := by decide +kernel
theorem dX2_attempt_5 : decode cX2_attempt 5 = .ok (.iconst (-1), 1) := by decide +kernel
theorem dX2_attempt_6 : decode cX2_attempt 6 = .ok (.goto 4, 3) := by decide +kernel
theorem dX2_attempt_9 : decode cX2_attempt 9 = .ok (.iconst 1, 1) := by decide +kernel
theorem dX2_attempt_10 : decode cX2_attempt 10 = .ok (.istore_n 1, 1) := by decide +kernel
theorem dX2_attempt_11 : decode cX2_attempt 11 = .ok (.iconst 0, 1) := by decide +kernel
theorem dX2_attempt_12 : decode cX2_attempt 12 = .ok (.iload_n 1, 1) := by decide +kernel
theorem dX2_attempt_13 : decode cX2_attempt 13 = .ok (.invokestatic 216, 3) := by decide +kernel
theorem dX2_attempt_16 : decode cX2_attempt 16 = .ok (.astore_n 2, 1) := by decide +kernel
theorem dX2_attempt_17 : decode cX2_attempt 17 = .ok (.iload_n 0, 1) := by decide +kernel
theorem dX2_attempt_18 : decode cX2_attempt 18 = .ok (.ifCond .ne 12, 3) := by decide +kernel
theorem dX2_attempt_21 : decode cX2_attempt 21 = .ok (.aload_n 2, 1) := by decide +kernel
theorem dX2_attempt_22 : decode cX2_attempt 22 = .ok (.iconst 0, 1) := by decide +kernel
theorem dX2_attempt_23 : decode cX2_attempt 23 = .ok (.iconst 1, 1) := by decide +kernel
theorem dX2_attempt_24 : decode cX2_attempt 24 = .ok (.invokevirtual 222, 3) := by decide +kernel
theorem dX2_attempt_27 : decode cX2_attempt 27 = .ok (.goto 40, 3) := by decide +kernel
theorem dX2_attempt_30 : decode cX2_attempt 30 = .ok (.iload_n 0, 1) := by decide +kernel
theorem dX2_attempt_31 : decode cX2_attempt 31 = .ok (.iconst 1, 1) := by decide +kernel
theorem dX2_attempt_32 : decode cX2_attempt 32 = .ok (.if_icmp .ne 11, 3) := by decide +kernel
theorem dX2_attempt_35 : decode cX2_attempt 35 = .ok (.aload_n 2, 1) := by decide +kernel
theorem dX2_attempt_36 : decode cX2_attempt 36 = .ok (.iconst 1, 1) := by decide +kernel
theorem dX2_attempt_37 : decode cX2_attempt 37 = .ok (.invokevirtual 225, 3) := by decide +kernel
theorem dX2_attempt_40 : decode cX2_attempt 40 = .ok (.goto 27, 3) := by decide +kernel
theorem dX2_attempt_43 : decode cX2_attempt 43 = .ok (.iload_n 0, 1) := by decide +kernel
theorem dX2_attempt_44 : decode cX2_attempt 44 = .ok (.iconst 2, 1) := by decide +kernel
theorem dX2_attempt_45 : decode cX2_attempt 45 = .ok (.if_icmp .ne 11, 3) := by decide +kernel
theorem dX2_attempt_48 : decode cX2_attempt 48 = .ok (.aload_n 2, 1) := by decide +kernel
theorem dX2_attempt_49 : decode cX2_attempt 49 = .ok (.iconst 0, 1) := by decide +kernel
theorem dX2_attempt_50 : decode cX2_attempt 50 = .ok (.invokevirtual 226, 3) := by decide +kernel
theorem dX2_attempt_53 : decode cX2_attempt 53 = .ok (.goto 14, 3) := by decide +kernel
theorem dX2_attempt_56 : decode cX2_attempt 56 = .ok (.iload_n 0, 1) := by decide +kernel
theorem dX2_attempt_57 : decode cX2_attempt 57 = .ok (.iconst 3, 1) := by decide +kernel
theorem dX2_attempt_58 : decode cX2_attempt 58 = .ok (.if_icmp .ne 9, 3) := by decide +kernel
theorem dX2_attempt_61 : decode cX2_attempt 61 = .ok (.aload_n 2, 1) := by decide +kernel
theorem dX2_attempt_62 : decode cX2_attempt 62 = .ok (.iload_n 1, 1) := by decide +kernel
theorem dX2_attempt_63 : decode cX2_attempt 63 = .ok (.invokevirtual 229, 3) := by decide +kernel
theorem dX2_attempt_66 : decode cX2_attempt 66 = .ok (.pop, 1) := by decide +kernel
theorem dX2_attempt_67 : decode cX2_attempt 67 = .ok (.return_, 1) := by decide +kernel
theorem dX2_errors_0 : decode cX2_errors 0 = .ok (.aload_n 0, 1) := by decide +kernel
theorem dX2_errors_1 : decode cX2_errors 1 = .ok (.iload_n 1, 1) := by decide +kernel
theorem dX2_errors_2 : decode cX2_errors 2 = .ok (.invokevirtual 38, 3) := by decide +kernel
theorem dX2_errors_5 : decode cX2_errors 5 = .ok (.astore_n 2, 1) := by decide +kernel
theorem dX2_errors_6 : decode cX2_errors 6 = .ok (.iconst 0, 1) := by decide +kernel
theorem dX2_errors_7 : decode cX2_errors 7 = .ok (.istore_n 3, 1) := by decide +kernel
theorem dX2_errors_8 : decode cX2_errors 8 = .ok (.iload_n 3, 1) := by decide +kernel
theorem dX2_errors_9 : decode cX2_errors 9 = .ok (.aload_n 0, 1) := by decide +kernel
theorem dX2_errors_10 : decode cX2_errors 10 = .ok (.aload_n 2, 1) := by decide +kernel
theorem dX2_errors_11 : decode cX2_errors 11 = .ok (.invokevirtual 232, 3) := by decide +kernel
theorem dX2_errors_14 : decode cX2_errors 14 = .ok (.ifCond .eq 7, 3) := by decide +kernel
theorem dX2_errors_17 : decode cX2_errors 17 = .ok (.iconst 0, 1) := by decide +kernel
theorem dX2_errors_18 : decode cX2_errors 18 = .ok (.goto 4, 3) := by decide +kernel
theorem dX2_errors_21 : decode cX2_errors 21 = .ok (.iconst 1, 1) := by decide +kernel
theorem dX2_errors_22 : decode cX2_errors 22 = .ok (.iadd, 1) := by decide +kernel
theorem dX2_errors_23 : decode cX2_errors 23 = .ok (.istore_n 3, 1) := by decide +kernel
theorem dX2_errors_24 : decode cX2_errors 24 = .ok (.iload_n 3, 1) := by decide +kernel
theorem dX2_errors_25 : decode cX2_errors 25 = .ok (.aload_n 0, 1) := by decide +kernel
theorem dX2_errors_26 : decode cX2_errors 26 = .ok (.aload_n 2, 1) := by decide +kernel
theorem dX2_errors_27 : decode cX2_errors 27 = .ok (.invokevirtual 236, 3) := by decide +kernel
theorem dX2_errors_30 : decode cX2_errors 30 = .ok (.ifCond .eq 7, 3) := by decide +kernel
theorem dX2_errors_33 : decode cX2_errors 33 = .ok (.iconst 0, 1) := by decide +kernel
theorem dX2_errors_34 : decode cX2_errors 34 = .ok (.goto 4, 3) := by decide +kernel
theorem dX2_errors_37 : decode cX2_errors 37 = .ok (.iconst 1, 1) := by decide +kernel
theorem dX2_errors_38 : decode cX2_errors 38 = .ok (.iadd, 1) := by decide +kernel
theorem dX2_errors_39 : decode cX2_errors 39 = .ok (.istore_n 3, 1) := by decide +kernel
theorem dX2_errors_40 : decode cX2_errors 40 = .ok (.iload_n 3, 1) := by decide +kernel
theorem dX2_errors_41 : decode cX2_errors 41 = .ok (.aload_n 0, 1) := by decide +kernel
theorem dX2_errors_42 : decode cX2_errors 42 = .ok (.aload_n 2, 1) := by decide +kernel
theorem dX2_errors_43 : decode cX2_errors 43 = .ok (.invokevirtual 239, 3) := by decide +kernel
theorem dX2_errors_46 : decode cX2_errors 46 = .ok (.ifCond .eq 7, 3) := by decide +kernel
theorem dX2_errors_49 : decode cX2_errors 49 = .ok (.iconst 0, 1) := by decide +kernel
theorem dX2_errors_50 : decode cX2_errors 50 = .ok (.goto 4, 3) := by decide +kernel
theorem dX2_errors_53 : decode cX2_errors 53 = .ok (.iconst 1, 1) := by decide +kernel
theorem dX2_errors_54 : decode cX2_errors 54 = .ok (.iadd, 1) := by decide +kernel
theorem dX2_errors_55 : decode cX2_errors 55 = .ok (.istore_n 3, 1) := by decide +kernel
theorem dX2_errors_56 : decode cX2_errors 56 = .ok (.iload_n 3, 1) := by decide +kernel
theorem dX2_errors_57 : decode cX2_errors 57 = .ok (.aload_n 0, 1) := by decide +kernel
theorem dX2_errors_58 : decode cX2_errors 58 = .ok (.aload_n 2, 1) := by decide +kernel
theorem dX2_errors_59 : decode cX2_errors 59 = .ok (.invokevirtual 242, 3) := by decide +kernel
theorem dX2_errors_62 : decode cX2_errors 62 = .ok (.ifCond .eq 7, 3) := by decide +kernel
theorem dX2_errors_65 : decode cX2_errors 65 = .ok (.iconst 0, 1) := by decide +kernel
theorem dX2_errors_66 : decode cX2_errors 66 = .ok (.goto 4, 3) := by decide +kernel
theorem dX2_errors_69 : decode cX2_errors 69 = .ok (.iconst 1, 1) := by decide +kernel
theorem dX2_errors_70 : decode cX2_errors 70 = .ok (.iadd, 1) := by decide +kernel
theorem dX2_errors_71 : decode cX2_errors 71 = .ok (.istore_n 3, 1) := by decide +kernel
theorem dX2_errors_72 : decode cX2_errors 72 = .ok (.iload_n 3, 1) := by decide +kernel
theorem dX2_errors_73 : decode cX2_errors 73 = .ok (.aload_n 0, 1) := by decide +kernel
theorem dX2_errors_74 : decode cX2_errors 74 = .ok (.aload_n 2, 1) := by decide +kernel
theorem dX2_errors_75 : decode cX2_errors 75 = .ok (.invokevirtual 245, 3) := by decide +kernel
theorem dX2_errors_78 : decode cX2_errors 78 = .ok (.ifCond .eq 7, 3) := by decide +kernel
theorem dX2_errors_81 : decode cX2_errors 81 = .ok (.iconst 0, 1) := by decide +kernel
theorem dX2_errors_82 : decode cX2_errors 82 = .ok (.goto 4, 3) := by decide +kernel
theorem dX2_errors_85 : decode cX2_errors 85 = .ok (.iconst 1, 1) := by decide +kernel
theorem dX2_errors_86 : decode cX2_errors 86 = .ok (.iadd, 1) := by decide +kernel
theorem dX2_errors_87 : decode cX2_errors 87 = .ok (.istore_n 3, 1) := by decide +kernel
theorem dX2_errors_88 : decode cX2_errors 88 = .ok (.iload_n 3, 1) := by decide +kernel
theorem dX2_errors_89 : decode cX2_errors 89 = .ok (.ireturn, 1) := by decide +kernel
theorem dX2_turnsBack_0 : decode cX2_turnsBack 0 = .ok (.aload_n 0, 1) := by decide +kernel
theorem dX2_turnsBack_1 : decode cX2_turnsBack 1 = .ok (.getfield 29, 3) := by decide +kernel
theorem dX2_turnsBack_4 : decode cX2_turnsBack 4 = .ok (.aload_n 1, 1) := by decide +kernel
theorem dX2_turnsBack_5 : decode cX2_turnsBack 5 = .ok (.invokevirtual 119, 3) := by decide +kernel
theorem dX2_turnsBack_8 : decode cX2_turnsBack 8 = .ok (.aload_n 0, 1) := by decide +kernel
theorem dX2_turnsBack_9 : decode cX2_turnsBack 9 = .ok (.getfield 29, 3) := by decide +kernel
theorem dX2_turnsBack_12 : decode cX2_turnsBack 12 = .ok (.iconst 0, 1) := by decide +kernel
theorem dX2_turnsBack_13 : decode cX2_turnsBack 13 = .ok (.aload_n 0, 1) := by decide +kernel
theorem dX2_turnsBack_14 : decode cX2_turnsBack 14 = .ok (.getfield 29, 3) := by decide +kernel
theorem dX2_turnsBack_17 : decode cX2_turnsBack 17 = .ok (.getfield 53, 3) := by decide +kernel
theorem dX2_turnsBack_20 : decode cX2_turnsBack 20 = .ok (.invokevirtual 174, 3) := by decide +kernel
theorem dX2_turnsBack_23 : decode cX2_turnsBack 23 = .ok (.aload_n 0, 1) := by decide +kernel
theorem dX2_turnsBack_24 : decode cX2_turnsBack 24 = .ok (.getfield 29, 3) := by decide +kernel
theorem dX2_turnsBack_27 : decode cX2_turnsBack 27 = .ok (.iconst 0, 1) := by decide +kernel
theorem dX2_turnsBack_28 : decode cX2_turnsBack 28 = .ok (.aload_n 0, 1) := by decide +kernel
theorem dX2_turnsBack_29 : decode cX2_turnsBack 29 = .ok (.getfield 29, 3) := by decide +kernel
theorem dX2_turnsBack_32 : decode cX2_turnsBack 32 = .ok (.getfield 53, 3) := by decide +kernel
theorem dX2_turnsBack_35 : decode cX2_turnsBack 35 = .ok (.invokevirtual 174, 3) := by decide +kernel
theorem dX2_turnsBack_38 : decode cX2_turnsBack 38 = .ok (.aload_n 0, 1) := by decide +kernel
theorem dX2_turnsBack_39 : decode cX2_turnsBack 39 = .ok (.getfield 29, 3) := by decide +kernel
theorem dX2_turnsBack_42 : decode cX2_turnsBack 42 = .ok (.aload_n 1, 1) := by decide +kernel
theorem dX2_turnsBack_43 : decode cX2_turnsBack 43 = .ok (.invokevirtual 162, 3) := by decide +kernel
theorem dX2_turnsBack_46 : decode cX2_turnsBack 46 = .ok (.ifCond .ne 7, 3) := by decide +kernel
theorem dX2_turnsBack_49 : decode cX2_turnsBack 49 = .ok (.iconst 1, 1) := by decide +kernel
theorem dX2_turnsBack_50 : decode cX2_turnsBack 50 = .ok (.goto 4, 3) := by decide +kernel
theorem dX2_turnsBack_53 : decode cX2_turnsBack 53 = .ok (.iconst 0, 1) := by decide +kernel
theorem dX2_turnsBack_54 : decode cX2_turnsBack 54 = .ok (.ireturn, 1) := by decide +kernel
theorem dX2_movesBack_0 : decode cX2_movesBack 0 = .ok (.aload_n 0, 1) := by decide +kernel
theorem dX2_movesBack_1 : decode cX2_movesBack 1 = .ok (.getfield 29, 3) := by decide +kernel
theorem dX2_movesBack_4 : decode cX2_movesBack 4 = .ok (.aload_n 1, 1) := by decide +kernel
theorem dX2_movesBack_5 : decode cX2_movesBack 5 = .ok (.invokevirtual 119, 3) := by decide +kernel
theorem dX2_movesBack_8 : decode cX2_movesBack 8 = .ok (.aload_n 0, 1) := by decide +kernel
theorem dX2_movesBack_9 : decode cX2_movesBack 9 = .ok (.aload_n 0, 1) := by decide +kernel
theorem dX2_movesBack_10 : decode cX2_movesBack 10 = .ok (.getfield 29, 3) := by decide +kernel
theorem dX2_movesBack_13 : decode cX2_movesBack 13 = .ok (.iconst 0, 1) := by decide +kernel
theorem dX2_movesBack_14 : decode cX2_movesBack 14 = .ok (.aload_n 0, 1) := by decide +kernel
theorem dX2_movesBack_15 : decode cX2_movesBack 15 = .ok (.getfield 29, 3) := by decide +kernel
theorem dX2_movesBack_18 : decode cX2_movesBack 18 = .ok (.getfield 53, 3) := by decide +kernel
theorem dX2_movesBack_21 : decode cX2_movesBack 21 = .ok (.iconst 1, 1) := by decide +kernel
theorem dX2_movesBack_22 : decode cX2_movesBack 22 = .ok (.invokevirtual 177, 3) := by decide +kernel
theorem dX2_movesBack_25 : decode cX2_movesBack 25 = .ok (.pop, 1) := by decide +kernel
theorem dX2_movesBack_26 : decode cX2_movesBack 26 = .ok (.aload_n 0, 1) := by decide +kernel
theorem dX2_movesBack_27 : decode cX2_movesBack 27 = .ok (.aload_n 0, 1) := by decide +kernel
theorem dX2_movesBack_28 : decode cX2_movesBack 28 = .ok (.getfield 29, 3) := by decide +kernel
theorem dX2_movesBack_31 : decode cX2_movesBack 31 = .ok (.iconst 0, 1) := by decide +kernel
theorem dX2_movesBack_32 : decode cX2_movesBack 32 = .ok (.aload_n 0, 1) := by decide +kernel
theorem dX2_movesBack_33 : decode cX2_movesBack 33 = .ok (.getfield 29, 3) := by decide +kernel
theorem dX2_movesBack_36 : decode cX2_movesBack 36 = .ok (.getfield 53, 3) := by decide +kernel
theorem dX2_movesBack_39 : decode cX2_movesBack 39 = .ok (.iconst (-1), 1) := by decide +kernel
theorem dX2_movesBack_40 : decode cX2_movesBack 40 = .ok (.invokevirtual 177, 3) := by decide +kernel
theorem dX2_movesBack_43 : decode cX2_movesBack 43 = .ok (.pop, 1) := by decide +kernel
theorem dX2_movesBack_44 : decode cX2_movesBack 44 = .ok (.aload_n 0, 1) := by decide +kernel
theorem dX2_movesBack_45 : decode cX2_movesBack 45 = .ok (.getfield 29, 3) := by decide +kernel
theorem dX2_movesBack_48 : decode cX2_movesBack 48 = .ok (.aload_n 1, 1) := by decide +kernel
theorem dX2_movesBack_49 : decode cX2_movesBack 49 = .ok (.invokevirtual 162, 3) := by decide +kernel
theorem dX2_movesBack_52 : decode cX2_movesBack 52 = .ok (.ifCond .ne 7, 3) := by decide +kernel
theorem dX2_movesBack_55 : decode cX2_movesBack 55 = .ok (.iconst 1, 1) := by decide +kernel
theorem dX2_movesBack_56 : decode cX2_movesBack 56 = .ok (.goto 4, 3) := by decide +kernel
theorem dX2_movesBack_59 : decode cX2_movesBack 59 = .ok (.iconst 0, 1) := by decide +kernel
theorem dX2_movesBack_60 : decode cX2_movesBack 60 = .ok (.ireturn, 1) := by decide +kernel
theorem dX2_sortsItsWords_0 : decode cX2_sortsItsWords 0 = .ok (.aload_n 0, 1) := by decide +kernel
theorem dX2_sortsItsWords_1 : decode cX2_sortsItsWords 1 = .ok (.getfield 29, 3) := by decide +kernel
theorem dX2_sortsItsWords_4 : decode cX2_sortsItsWords 4 = .ok (.aload_n 1, 1) := by decide +kernel
theorem dX2_sortsItsWords_5 : decode cX2_sortsItsWords 5 = .ok (.invokevirtual 119, 3) := by decide +kernel
theorem dX2_sortsItsWords_8 : decode cX2_sortsItsWords 8 = .ok (.aload_n 0, 1) := by decide +kernel
theorem dX2_sortsItsWords_9 : decode cX2_sortsItsWords 9 = .ok (.aload_n 0, 1) := by decide +kernel
theorem dX2_sortsItsWords_10 : decode cX2_sortsItsWords 10 = .ok (.getfield 29, 3) := by decide +kernel
theorem dX2_sortsItsWords_13 : decode cX2_sortsItsWords 13 = .ok (.iconst 0, 1) := by decide +kernel
theorem dX2_sortsItsWords_14 : decode cX2_sortsItsWords 14 = .ok (.iconst 0, 1) := by decide +kernel
theorem dX2_sortsItsWords_15 : decode cX2_sortsItsWords 15 = .ok (.invokevirtual 158, 3) := by decide +kernel
theorem dX2_sortsItsWords_18 : decode cX2_sortsItsWords 18 = .ok (.iconst 0, 1) := by decide +kernel
theorem dX2_sortsItsWords_19 : decode cX2_sortsItsWords 19 = .ok (.istore_n 2, 1) := by decide +kernel
theorem dX2_sortsItsWords_20 : decode cX2_sortsItsWords 20 = .ok (.iload_n 2, 1) := by decide +kernel
theorem dX2_sortsItsWords_21 : decode cX2_sortsItsWords 21 = .ok (.aload_n 1, 1) := by decide +kernel
theorem dX2_sortsItsWords_22 : decode cX2_sortsItsWords 22 = .ok (.getfield 53, 3) := by decide +kernel
theorem dX2_sortsItsWords_25 : decode cX2_sortsItsWords 25 = .ok (.if_icmp .ge 37, 3) := by decide +kernel
theorem dX2_sortsItsWords_28 : decode cX2_sortsItsWords 28 = .ok (.aload_n 0, 1) := by decide +kernel
theorem dX2_sortsItsWords_29 : decode cX2_sortsItsWords 29 = .ok (.getfield 29, 3) := by decide +kernel
theorem dX2_sortsItsWords_32 : decode cX2_sortsItsWords 32 = .ok (.aload_n 1, 1) := by decide +kernel
theorem dX2_sortsItsWords_33 : decode cX2_sortsItsWords 33 = .ok (.getfield 83, 3) := by decide +kernel
theorem dX2_sortsItsWords_36 : decode cX2_sortsItsWords 36 = .ok (.iload_n 2, 1) := by decide +kernel
theorem dX2_sortsItsWords_37 : decode cX2_sortsItsWords 37 = .ok (.iaload, 1) := by decide +kernel
theorem dX2_sortsItsWords_38 : decode cX2_sortsItsWords 38 = .ok (.invokevirtual 129, 3) := by decide +kernel
theorem dX2_sortsItsWords_41 : decode cX2_sortsItsWords 41 = .ok (.aload_n 1, 1) := by decide +kernel
theorem dX2_sortsItsWords_42 : decode cX2_sortsItsWords 42 = .ok (.aload_n 1, 1) := by decide +kernel
theorem dX2_sortsItsWords_43 : decode cX2_sortsItsWords 43 = .ok (.getfield 83, 3) := by decide +kernel
theorem dX2_sortsItsWords_46 : decode cX2_sortsItsWords 46 = .ok (.iload_n 2, 1) := by decide +kernel
theorem dX2_sortsItsWords_47 : decode cX2_sortsItsWords 47 = .ok (.iaload, 1) := by decide +kernel
theorem dX2_sortsItsWords_48 : decode cX2_sortsItsWords 48 = .ok (.invokevirtual 129, 3) := by decide +kernel
theorem dX2_sortsItsWords_51 : decode cX2_sortsItsWords 51 = .ok (.if_icmp .eq 5, 3) := by decide +kernel
theorem dX2_sortsItsWords_54 : decode cX2_sortsItsWords 54 = .ok (.iconst 0, 1) := by decide +kernel
theorem dX2_sortsItsWords_55 : decode cX2_sortsItsWords 55 = .ok (.ireturn, 1) := by decide +kernel
theorem dX2_sortsItsWords_56 : decode cX2_sortsItsWords 56 = .ok (.iinc 2 1, 3) := by decide +kernel
theorem dX2_sortsItsWords_59 : decode cX2_sortsItsWords 59 = .ok (.goto (-39), 3) := by decide +kernel
theorem dX2_sortsItsWords_62 : decode cX2_sortsItsWords 62 = .ok (.aload_n 0, 1) := by decide +kernel
theorem dX2_sortsItsWords_63 : decode cX2_sortsItsWords 63 = .ok (.aload_n 0, 1) := by decide +kernel
theorem dX2_sortsItsWords_64 : decode cX2_sortsItsWords 64 = .ok (.getfield 29, 3) := by decide +kernel
theorem dX2_sortsItsWords_67 : decode cX2_sortsItsWords 67 = .ok (.iconst 0, 1) := by decide +kernel
theorem dX2_sortsItsWords_68 : decode cX2_sortsItsWords 68 = .ok (.invokevirtual 165, 3) := by decide +kernel
theorem dX2_sortsItsWords_71 : decode cX2_sortsItsWords 71 = .ok (.ireturn, 1) := by decide +kernel
theorem dX2_findsWhatItCounts_0 : decode cX2_findsWhatItCounts 0 = .ok (.aload_n 0, 1) := by decide +kernel
theorem dX2_findsWhatItCounts_1 : decode cX2_findsWhatItCounts 1 = .ok (.getfield 15, 3) := by decide +kernel
theorem dX2_findsWhatItCounts_4 : decode cX2_findsWhatItCounts 4 = .ok (.iconst 0, 1) := by decide +kernel
theorem dX2_findsWhatItCounts_5 : decode cX2_findsWhatItCounts 5 = .ok (.aaload, 1) := by decide +kernel
theorem dX2_findsWhatItCounts_6 : decode cX2_findsWhatItCounts 6 = .ok (.astore_n 2, 1) := by decide +kernel
theorem dX2_findsWhatItCounts_7 : decode cX2_findsWhatItCounts 7 = .ok (.aload_n 1, 1) := by decide +kernel
theorem dX2_findsWhatItCounts_8 : decode cX2_findsWhatItCounts 8 = .ok (.aload_n 2, 1) := by decide +kernel
theorem dX2_findsWhatItCounts_9 : decode cX2_findsWhatItCounts 9 = .ok (.iconst 0, 1) := by decide +kernel
theorem dX2_findsWhatItCounts_10 : decode cX2_findsWhatItCounts 10 = .ok (.aload_n 1, 1) := by decide +kernel
theorem dX2_findsWhatItCounts_11 : decode cX2_findsWhatItCounts 11 = .ok (.getfield 53, 3) := by decide +kernel
theorem dX2_findsWhatItCounts_14 : decode cX2_findsWhatItCounts 14 = .ok (.invokevirtual 99, 3) := by decide +kernel
theorem dX2_findsWhatItCounts_17 : decode cX2_findsWhatItCounts 17 = .ok (.iconst (-1), 1) := by decide +kernel
theorem dX2_findsWhatItCounts_18 : decode cX2_findsWhatItCounts 18 = .ok (.if_icmp .eq 7, 3) := by decide +kernel
theorem dX2_findsWhatItCounts_21 : decode cX2_findsWhatItCounts 21 = .ok (.iconst 1, 1) := by decide +kernel
theorem dX2_findsWhatItCounts_22 : decode cX2_findsWhatItCounts 22 = .ok (.goto 4, 3) := by decide +kernel
theorem dX2_findsWhatItCounts_25 : decode cX2_findsWhatItCounts 25 = .ok (.iconst 0, 1) := by decide +kernel
theorem dX2_findsWhatItCounts_26 : decode cX2_findsWhatItCounts 26 = .ok (.istore_n 3, 1) := by decide +kernel
theorem dX2_findsWhatItCounts_27 : decode cX2_findsWhatItCounts 27 = .ok (.aload_n 1, 1) := by decide +kernel
theorem dX2_findsWhatItCounts_28 : decode cX2_findsWhatItCounts 28 = .ok (.aload_n 2, 1) := by decide +kernel
theorem dX2_findsWhatItCounts_29 : decode cX2_findsWhatItCounts 29 = .ok (.invokevirtual 107, 3) := by decide +kernel
theorem dX2_findsWhatItCounts_32 : decode cX2_findsWhatItCounts 32 = .ok (.istore 4, 2) := by decide +kernel
theorem dX2_findsWhatItCounts_34 : decode cX2_findsWhatItCounts 34 = .ok (.aload_n 1, 1) := by decide +kernel
theorem dX2_findsWhatItCounts_35 : decode cX2_findsWhatItCounts 35 = .ok (.aload_n 2, 1) := by decide +kernel
theorem dX2_findsWhatItCounts_36 : decode cX2_findsWhatItCounts 36 = .ok (.invokevirtual 110, 3) := by decide +kernel
theorem dX2_findsWhatItCounts_39 : decode cX2_findsWhatItCounts 39 = .ok (.istore 5, 2) := by decide +kernel
theorem dX2_findsWhatItCounts_41 : decode cX2_findsWhatItCounts 41 = .ok (.iload 4, 2) := by decide +kernel
theorem dX2_findsWhatItCounts_43 : decode cX2_findsWhatItCounts 43 = .ok (.iload 5, 2) := by decide +kernel
theorem dX2_findsWhatItCounts_45 : decode cX2_findsWhatItCounts 45 = .ok (.if_icmp .gt 35, 3) := by decide +kernel
theorem dX2_findsWhatItCounts_48 : decode cX2_findsWhatItCounts 48 = .ok (.iload 4, 2) := by decide +kernel
theorem dX2_findsWhatItCounts_50 : decode cX2_findsWhatItCounts 50 = .ok (.ifCond .le 7, 3) := by decide +kernel
theorem dX2_findsWhatItCounts_53 : decode cX2_findsWhatItCounts 53 = .ok (.iconst 1, 1) := by decide +kernel
theorem dX2_findsWhatItCounts_54 : decode cX2_findsWhatItCounts 54 = .ok (.goto 4, 3) := by decide +kernel
theorem dX2_findsWhatItCounts_57 : decode cX2_findsWhatItCounts 57 = .ok (.iconst 0, 1) := by decide +kernel
theorem dX2_findsWhatItCounts_58 : decode cX2_findsWhatItCounts 58 = .ok (.iload_n 3, 1) := by decide +kernel
theorem dX2_findsWhatItCounts_59 : decode cX2_findsWhatItCounts 59 = .ok (.if_icmp .ne 21, 3) := by decide +kernel
theorem dX2_findsWhatItCounts_62 : decode cX2_findsWhatItCounts 62 = .ok (.iload 5, 2) := by decide +kernel
theorem dX2_findsWhatItCounts_64 : decode cX2_findsWhatItCounts 64 = .ok (.ifCond .le 7, 3) := by decide +kernel
theorem dX2_findsWhatItCounts_67 : decode cX2_findsWhatItCounts 67 = .ok (.iconst 1, 1) := by decide +kernel
theorem dX2_findsWhatItCounts_68 : decode cX2_findsWhatItCounts 68 = .ok (.goto 4, 3) := by decide +kernel
theorem dX2_findsWhatItCounts_71 : decode cX2_findsWhatItCounts 71 = .ok (.iconst 0, 1) := by decide +kernel
theorem dX2_findsWhatItCounts_72 : decode cX2_findsWhatItCounts 72 = .ok (.iload_n 3, 1) := by decide +kernel
theorem dX2_findsWhatItCounts_73 : decode cX2_findsWhatItCounts 73 = .ok (.if_icmp .ne 7, 3) := by decide +kernel
theorem dX2_findsWhatItCounts_76 : decode cX2_findsWhatItCounts 76 = .ok (.iconst 1, 1) := by decide +kernel
theorem dX2_findsWhatItCounts_77 : decode cX2_findsWhatItCounts 77 = .ok (.goto 4, 3) := by decide +kernel
theorem dX2_findsWhatItCounts_80 : decode cX2_findsWhatItCounts 80 = .ok (.iconst 0, 1) := by decide +kernel
theorem dX2_findsWhatItCounts_81 : decode cX2_findsWhatItCounts 81 = .ok (.ireturn, 1) := by decide +kernel
theorem dX2_findsInMirror_0 : decode cX2_findsInMirror 0 = .ok (.aload_n 0, 1) := by decide +kernel
theorem dX2_findsInMirror_1 : decode cX2_findsInMirror 1 = .ok (.getfield 15, 3) := by decide +kernel
theorem dX2_findsInMirror_4 : decode cX2_findsInMirror 4 = .ok (.iconst 0, 1) := by decide +kernel
theorem dX2_findsInMirror_5 : decode cX2_findsInMirror 5 = .ok (.aaload, 1) := by decide +kernel
theorem dX2_findsInMirror_6 : decode cX2_findsInMirror 6 = .ok (.astore_n 2, 1) := by decide +kernel
theorem dX2_findsInMirror_7 : decode cX2_findsInMirror 7 = .ok (.aload_n 0, 1) := by decide +kernel
theorem dX2_findsInMirror_8 : decode cX2_findsInMirror 8 = .ok (.getfield 29, 3) := by decide +kernel
theorem dX2_findsInMirror_11 : decode cX2_findsInMirror 11 = .ok (.aload_n 1, 1) := by decide +kernel
theorem dX2_findsInMirror_12 : decode cX2_findsInMirror 12 = .ok (.invokevirtual 119, 3) := by decide +kernel
theorem dX2_findsInMirror_15 : decode cX2_findsInMirror 15 = .ok (.aload_n 0, 1) := by decide +kernel
theorem dX2_findsInMirror_16 : decode cX2_findsInMirror 16 = .ok (.getfield 29, 3) := by decide +kernel
theorem dX2_findsInMirror_19 : decode cX2_findsInMirror 19 = .ok (.iconst 0, 1) := by decide +kernel
theorem dX2_findsInMirror_20 : decode cX2_findsInMirror 20 = .ok (.aload_n 0, 1) := by decide +kernel
theorem dX2_findsInMirror_21 : decode cX2_findsInMirror 21 = .ok (.getfield 29, 3) := by decide +kernel
theorem dX2_findsInMirror_24 : decode cX2_findsInMirror 24 = .ok (.getfield 53, 3) := by decide +kernel
theorem dX2_findsInMirror_27 : decode cX2_findsInMirror 27 = .ok (.invokevirtual 174, 3) := by decide +kernel
theorem dX2_findsInMirror_30 : decode cX2_findsInMirror 30 = .ok (.aload_n 0, 1) := by decide +kernel
theorem dX2_findsInMirror_31 : decode cX2_findsInMirror 31 = .ok (.getfield 32, 3) := by decide +kernel
theorem dX2_findsInMirror_34 : decode cX2_findsInMirror 34 = .ok (.aload_n 2, 1) := by decide +kernel
theorem dX2_findsInMirror_35 : decode cX2_findsInMirror 35 = .ok (.invokevirtual 119, 3) := by decide +kernel
theorem dX2_findsInMirror_38 : decode cX2_findsInMirror 38 = .ok (.aload_n 0, 1) := by decide +kernel
theorem dX2_findsInMirror_39 : decode cX2_findsInMirror 39 = .ok (.getfield 32, 3) := by decide +kernel
theorem dX2_findsInMirror_42 : decode cX2_findsInMirror 42 = .ok (.iconst 0, 1) := by decide +kernel
theorem dX2_findsInMirror_43 : decode cX2_findsInMirror 43 = .ok (.aload_n 0, 1) := by decide +kernel
theorem dX2_findsInMirror_44 : decode cX2_findsInMirror 44 = .ok (.getfield 32, 3) := by decide +kernel
theorem dX2_findsInMirror_47 : decode cX2_findsInMirror 47 = .ok (.getfield 53, 3) := by decide +kernel
theorem dX2_findsInMirror_50 : decode cX2_findsInMirror 50 = .ok (.invokevirtual 174, 3) := by decide +kernel
theorem dX2_findsInMirror_53 : decode cX2_findsInMirror 53 = .ok (.aload_n 0, 1) := by decide +kernel
theorem dX2_findsInMirror_54 : decode cX2_findsInMirror 54 = .ok (.getfield 29, 3) := by decide +kernel
theorem dX2_findsInMirror_57 : decode cX2_findsInMirror 57 = .ok (.aload_n 0, 1) := by decide +kernel
theorem dX2_findsInMirror_58 : decode cX2_findsInMirror 58 = .ok (.getfield 32, 3) := by decide +kernel
theorem dX2_findsInMirror_61 : decode cX2_findsInMirror 61 = .ok (.iconst 0, 1) := by decide +kernel
theorem dX2_findsInMirror_62 : decode cX2_findsInMirror 62 = .ok (.aload_n 0, 1) := by decide +kernel
theorem dX2_findsInMirror_63 : decode cX2_findsInMirror 63 = .ok (.getfield 29, 3) := by decide +kernel
theorem dX2_findsInMirror_66 : decode cX2_findsInMirror 66 = .ok (.getfield 53, 3) := by decide +kernel
theorem dX2_findsInMirror_69 : decode cX2_findsInMirror 69 = .ok (.invokevirtual 99, 3) := by decide +kernel
theorem dX2_findsInMirror_72 : decode cX2_findsInMirror 72 = .ok (.istore_n 3, 1) := by decide +kernel
theorem dX2_findsInMirror_73 : decode cX2_findsInMirror 73 = .ok (.aload_n 1, 1) := by decide +kernel
theorem dX2_findsInMirror_74 : decode cX2_findsInMirror 74 = .ok (.aload_n 2, 1) := by decide +kernel
theorem dX2_findsInMirror_75 : decode cX2_findsInMirror 75 = .ok (.invokevirtual 103, 3) := by decide +kernel
theorem dX2_findsInMirror_78 : decode cX2_findsInMirror 78 = .ok (.istore 4, 2) := by decide +kernel
theorem dX2_findsInMirror_80 : decode cX2_findsInMirror 80 = .ok (.iload_n 3, 1) := by decide +kernel
theorem dX2_findsInMirror_81 : decode cX2_findsInMirror 81 = .ok (.iconst (-1), 1) := by decide +kernel
theorem dX2_findsInMirror_82 : decode cX2_findsInMirror 82 = .ok (.if_icmp .ne 17, 3) := by decide +kernel
theorem dX2_findsInMirror_85 : decode cX2_findsInMirror 85 = .ok (.iload 4, 2) := by decide +kernel
theorem dX2_findsInMirror_87 : decode cX2_findsInMirror 87 = .ok (.iconst (-1), 1) := by decide +kernel
theorem dX2_findsInMirror_88 : decode cX2_findsInMirror 88 = .ok (.if_icmp .ne 7, 3) := by decide +kernel
theorem dX2_findsInMirror_91 : decode cX2_findsInMirror 91 = .ok (.iconst 1, 1) := by decide +kernel
theorem dX2_findsInMirror_92 : decode cX2_findsInMirror 92 = .ok (.goto 28, 3) := by decide +kernel
theorem dX2_findsInMirror_95 : decode cX2_findsInMirror 95 = .ok (.iconst 0, 1) := by decide +kernel
theorem dX2_findsInMirror_96 : decode cX2_findsInMirror 96 = .ok (.goto 24, 3) := by decide +kernel
theorem dX2_findsInMirror_99 : decode cX2_findsInMirror 99 = .ok (.iload 4, 2) := by decide +kernel
theorem dX2_findsInMirror_101 : decode cX2_findsInMirror 101 = .ok (.aload_n 1, 1) := by decide +kernel
theorem dX2_findsInMirror_102 : decode cX2_findsInMirror 102 = .ok (.getfield 53, 3) := by decide +kernel
theorem dX2_findsInMirror_105 : decode cX2_findsInMirror 105 = .ok (.aload_n 2, 1) := by decide +kernel
theorem dX2_findsInMirror_106 : decode cX2_findsInMirror 106 = .ok (.getfield 53, 3) := by decide +kernel
theorem dX2_findsInMirror_109 : decode cX2_findsInMirror 109 = .ok (.isub, 1) := by decide +kernel
theorem dX2_findsInMirror_110 : decode cX2_findsInMirror 110 = .ok (.iload_n 3, 1) := by decide +kernel
theorem dX2_findsInMirror_111 : decode cX2_findsInMirror 111 = .ok (.isub, 1) := by decide +kernel
theorem dX2_findsInMirror_112 : decode cX2_findsInMirror 112 = .ok (.if_icmp .ne 7, 3) := by decide +kernel
theorem dX2_findsInMirror_115 : decode cX2_findsInMirror 115 = .ok (.iconst 1, 1) := by decide +kernel
theorem dX2_findsInMirror_116 : decode cX2_findsInMirror 116 = .ok (.goto 4, 3) := by decide +kernel
theorem dX2_findsInMirror_119 : decode cX2_findsInMirror 119 = .ok (.iconst 0, 1) := by decide +kernel
theorem dX2_findsInMirror_120 : decode cX2_findsInMirror 120 = .ok (.ireturn, 1) := by decide +kernel
theorem dX2_meanWord_0 : decode cX2_meanWord 0 = .ok (.aload_n 0, 1) := by decide +kernel
theorem dX2_meanWord_1 : decode cX2_meanWord 1 = .ok (.iload_n 1, 1) := by decide +kernel
theorem dX2_meanWord_2 : decode cX2_meanWord 2 = .ok (.invokevirtual 38, 3) := by decide +kernel
theorem dX2_meanWord_5 : decode cX2_meanWord 5 = .ok (.astore_n 2, 1) := by decide +kernel
theorem dX2_meanWord_6 : decode cX2_meanWord 6 = .ok (.aload_n 2, 1) := by decide +kernel
theorem dX2_meanWord_7 : decode cX2_meanWord 7 = .ok (.getfield 53, 3) := by decide +kernel
theorem dX2_meanWord_10 : decode cX2_meanWord 10 = .ok (.ifCond .ne 5, 3) := by decide +kernel
theorem dX2_meanWord_13 : decode cX2_meanWord 13 = .ok (.dconst 0, 1) := by decide +kernel
theorem dX2_meanWord_14 : decode cX2_meanWord 14 = .ok (.dreturn, 1) := by decide +kernel
theorem dX2_meanWord_15 : decode cX2_meanWord 15 = .ok (.iconst 0, 1) := by decide +kernel
theorem dX2_meanWord_16 : decode cX2_meanWord 16 = .ok (.istore_n 3, 1) := by decide +kernel
theorem dX2_meanWord_17 : decode cX2_meanWord 17 = .ok (.iconst 0, 1) := by decide +kernel
theorem dX2_meanWord_18 : decode cX2_meanWord 18 = .ok (.istore 4, 2) := by decide +kernel
theorem dX2_meanWord_20 : decode cX2_meanWord 20 = .ok (.iload 4, 2) := by decide +kernel
theorem dX2_meanWord_22 : decode cX2_meanWord 22 = .ok (.aload_n 2, 1) := by decide +kernel
theorem dX2_meanWord_23 : decode cX2_meanWord 23 = .ok (.getfield 53, 3) := by decide +kernel
theorem dX2_meanWord_26 : decode cX2_meanWord 26 = .ok (.if_icmp .ge 19, 3) := by decide +kernel
theorem dX2_meanWord_29 : decode cX2_meanWord 29 = .ok (.iload_n 3, 1) := by decide +kernel
theorem dX2_meanWord_30 : decode cX2_meanWord 30 = .ok (.aload_n 2, 1) := by decide +kernel
theorem dX2_meanWord_31 : decode cX2_meanWord 31 = .ok (.getfield 83, 3) := by decide +kernel
theorem dX2_meanWord_34 : decode cX2_meanWord 34 = .ok (.iload 4, 2) := by decide +kernel
theorem dX2_meanWord_36 : decode cX2_meanWord 36 = .ok (.iaload, 1) := by decide +kernel
theorem dX2_meanWord_37 : decode cX2_meanWord 37 = .ok (.iadd, 1) := by decide +kernel
theorem dX2_meanWord_38 : decode cX2_meanWord 38 = .ok (.istore_n 3, 1) := by decide +kernel
theorem dX2_meanWord_39 : decode cX2_meanWord 39 = .ok (.iinc 4 1, 3) := by decide +kernel
theorem dX2_meanWord_42 : decode cX2_meanWord 42 = .ok (.goto (-22), 3) := by decide +kernel
theorem dX2_meanWord_45 : decode cX2_meanWord 45 = .ok (.iload_n 3, 1) := by decide +kernel
theorem dX2_meanWord_46 : decode cX2_meanWord 46 = .ok (.i2d, 1) := by decide +kernel
theorem dX2_meanWord_47 : decode cX2_meanWord 47 = .ok (.aload_n 2, 1) := by decide +kernel
theorem dX2_meanWord_48 : decode cX2_meanWord 48 = .ok (.getfield 53, 3) := by decide +kernel
theorem dX2_meanWord_51 : decode cX2_meanWord 51 = .ok (.i2d, 1) := by decide +kernel
theorem dX2_meanWord_52 : decode cX2_meanWord 52 = .ok (.ddiv, 1) := by decide +kernel
theorem dX2_meanWord_53 : decode cX2_meanWord 53 = .ok (.dreturn, 1) := by decide +kernel
theorem dX2_share_0 : decode cX2_share 0 = .ok (.aload_n 0, 1) := by decide +kernel
theorem dX2_share_1 : decode cX2_share 1 = .ok (.iload_n 1, 1) := by decide +kernel
theorem dX2_share_2 : decode cX2_share 2 = .ok (.invokevirtual 38, 3) := by decide +kernel
theorem dX2_share_5 : decode cX2_share 5 = .ok (.astore_n 3, 1) := by decide +kernel
theorem dX2_share_6 : decode cX2_share 6 = .ok (.iload_n 2, 1) := by decide +kernel
theorem dX2_share_7 : decode cX2_share 7 = .ok (.invokestatic 42, 3) := by decide +kernel
theorem dX2_share_10 : decode cX2_share 10 = .ok (.aload_n 3, 1) := by decide +kernel
theorem dX2_share_11 : decode cX2_share 11 = .ok (.getfield 53, 3) := by decide +kernel
theorem dX2_share_14 : decode cX2_share 14 = .ok (.ifCond .ne 5, 3) := by decide +kernel
theorem dX2_share_17 : decode cX2_share 17 = .ok (.fconst 0, 1) := by decide +kernel
theorem dX2_share_18 : decode cX2_share 18 = .ok (.freturn, 1) := by decide +kernel
theorem dX2_share_19 : decode cX2_share 19 = .ok (.aload_n 3, 1) := by decide +kernel
theorem dX2_share_20 : decode cX2_share 20 = .ok (.iload_n 2, 1) := by decide +kernel
theorem dX2_share_21 : decode cX2_share 21 = .ok (.invokevirtual 129, 3) := by decide +kernel
theorem dX2_share_24 : decode cX2_share 24 = .ok (.i2f, 1) := by decide +kernel
theorem dX2_share_25 : decode cX2_share 25 = .ok (.aload_n 3, 1) := by decide +kernel
theorem dX2_share_26 : decode cX2_share 26 = .ok (.getfield 53, 3) := by decide +kernel
theorem dX2_share_29 : decode cX2_share 29 = .ok (.i2f, 1) := by decide +kernel
theorem dX2_share_30 : decode cX2_share 30 = .ok (.fdiv, 1) := by decide +kernel
theorem dX2_share_31 : decode cX2_share 31 = .ok (.freturn, 1) := by decide +kernel
theorem dX2_textAt_0 : decode cX2_textAt 0 = .ok (.iload_n 1, 1) := by decide +kernel
theorem dX2_textAt_1 : decode cX2_textAt 1 = .ok (.ifCond .lt 8, 3) := by decide +kernel
theorem dX2_textAt_4 : decode cX2_textAt 4 = .ok (.iload_n 1, 1) := by decide +kernel
theorem dX2_textAt_5 : decode cX2_textAt 5 = .ok (.iconst 4, 1) := by decide +kernel
theorem dX2_textAt_6 : decode cX2_textAt 6 = .ok (.if_icmp .lt 13, 3) := by decide +kernel
theorem dX2_textAt_9 : decode cX2_textAt 9 = .ok (.new 212, 3) := by decide +kernel
theorem dX2_textAt_12 : decode cX2_textAt 12 = .ok (.dup, 1) := by decide +kernel
theorem dX2_textAt_13 : decode cX2_textAt 13 = .ok (.ldc 248, 2) := by decide +kernel
theorem dX2_textAt_15 : decode cX2_textAt 15 = .ok (.invokespecial 250, 3) := by decide +kernel
theorem dX2_textAt_18 : decode cX2_textAt 18 = .ok (.athrow, 1) := by decide +kernel
theorem dX2_textAt_19 : decode cX2_textAt 19 = .ok (.aload_n 0, 1) := by decide +kernel
theorem dX2_textAt_20 : decode cX2_textAt 20 = .ok (.getfield 11, 3) := by decide +kernel
theorem dX2_textAt_23 : decode cX2_textAt 23 = .ok (.iload_n 1, 1) := by decide +kernel
theorem dX2_textAt_24 : decode cX2_textAt 24 = .ok (.aaload, 1) := by decide +kernel
theorem dX2_textAt_25 : decode cX2_textAt 25 = .ok (.areturn, 1) := by decide +kernel
theorem dX2_phraseAt_0 : decode cX2_phraseAt 0 = .ok (.iload_n 1, 1) := by decide +kernel
theorem dX2_phraseAt_1 : decode cX2_phraseAt 1 = .ok (.ifCond .eq 18, 3) := by decide +kernel
theorem dX2_phraseAt_4 : decode cX2_phraseAt 4 = .ok (.iload_n 1, 1) := by decide +kernel
theorem dX2_phraseAt_5 : decode cX2_phraseAt 5 = .ok (.iconst 1, 1) := by decide +kernel
theorem dX2_phraseAt_6 : decode cX2_phraseAt 6 = .ok (.if_icmp .eq 13, 3) := by decide +kernel
theorem dX2_phraseAt_9 : decode cX2_phraseAt 9 = .ok (.new 212, 3) := by decide +kernel
theorem dX2_phraseAt_12 : decode cX2_phraseAt 12 = .ok (.dup, 1) := by decide +kernel
theorem dX2_phraseAt_13 : decode cX2_phraseAt 13 = .ok (.ldc 251, 2) := by decide +kernel
theorem dX2_phraseAt_15 : decode cX2_phraseAt 15 = .ok (.invokespecial 250, 3) := by decide +kernel
theorem dX2_phraseAt_18 : decode cX2_phraseAt 18 = .ok (.athrow, 1) := by decide +kernel
theorem dX2_phraseAt_19 : decode cX2_phraseAt 19 = .ok (.aload_n 0, 1) := by decide +kernel
theorem dX2_phraseAt_20 : decode cX2_phraseAt 20 = .ok (.getfield 15, 3) := by decide +kernel
theorem dX2_phraseAt_23 : decode cX2_phraseAt 23 = .ok (.iload_n 1, 1) := by decide +kernel
theorem dX2_phraseAt_24 : decode cX2_phraseAt 24 = .ok (.aaload, 1) := by decide +kernel
theorem dX2_phraseAt_25 : decode cX2_phraseAt 25 = .ok (.areturn, 1) := by decide +kernel
theorem dX2_requireWord_0 : decode cX2_requireWord 0 = .ok (.iload_n 0, 1) := by decide +kernel
theorem dX2_requireWord_1 : decode cX2_requireWord 1 = .ok (.ifCond .lt 9, 3) := by decide +kernel
theorem dX2_requireWord_4 : decode cX2_requireWord 4 = .ok (.iload_n 0, 1) := by decide +kernel
theorem dX2_requireWord_5 : decode cX2_requireWord 5 = .ok (.bipush 100, 2) := by decide +kernel
theorem dX2_requireWord_7 : decode cX2_requireWord 7 = .ok (.if_icmp .lt 13, 3) := by decide +kernel
theorem dX2_requireWord_10 : decode cX2_requireWord 10 = .ok (.new 212, 3) := by decide +kernel
theorem dX2_requireWord_13 : decode cX2_requireWord 13 = .ok (.dup, 1) := by decide +kernel
theorem dX2_requireWord_14 : decode cX2_requireWord 14 = .ok (.ldc 253, 2) := by decide +kernel
theorem dX2_requireWord_16 : decode cX2_requireWord 16 = .ok (.invokespecial 250, 3) := by decide +kernel
theorem dX2_requireWord_19 : decode cX2_requireWord 19 = .ok (.athrow, 1) := by decide +kernel
theorem dX2_requireWord_20 : decode cX2_requireWord 20 = .ok (.return_, 1) := by decide +kernel
theorem dX2_requirePlace_0 : decode cX2_requirePlace 0 = .ok (.iload_n 1, 1) := by decide +kernel
theorem dX2_requirePlace_1 : decode cX2_requirePlace 1 = .ok (.ifCond .lt 11, 3) := by decide +kernel
theorem dX2_requirePlace_4 : decode cX2_requirePlace 4 = .ok (.iload_n 1, 1) := by decide +kernel
theorem dX2_requirePlace_5 : decode cX2_requirePlace 5 = .ok (.aload_n 0, 1) := by decide +kernel
theorem dX2_requirePlace_6 : decode cX2_requirePlace 6 = .ok (.getfield 53, 3) := by decide +kernel
theorem dX2_requirePlace_9 : decode cX2_requirePlace 9 = .ok (.if_icmp .lt 13, 3) := by decide +kernel
theorem dX2_requirePlace_12 : decode cX2_requirePlace 12 = .ok (.new 212, 3) := by decide +kernel
theorem dX2_requirePlace_15 : decode cX2_requirePlace 15 = .ok (.dup, 1) := by decide +kernel
theorem dX2_requirePlace_16 : decode cX2_requirePlace 16 = .ok (.ldc 255, 2) := by decide +kernel
theorem dX2_requirePlace_18 : decode cX2_requirePlace 18 = .ok (.invokespecial 250, 3) := by decide +kernel
theorem dX2_requirePlace_21 : decode cX2_requirePlace 21 = .ok (.athrow, 1) := by decide +kernel
theorem dX2_requirePlace_22 : decode cX2_requirePlace 22 = .ok (.return_, 1) := by decide +kernel
theorem dX2_requirePart_0 : decode cX2_requirePart 0 = .ok (.iload_n 1, 1) := by decide +kernel
theorem dX2_requirePart_1 : decode cX2_requirePart 1 = .ok (.ifCond .lt 16, 3) := by decide +kernel
theorem dX2_requirePart_4 : decode cX2_requirePart 4 = .ok (.iload_n 2, 1) := by decide +kernel
theorem dX2_requirePart_5 : decode cX2_requirePart 5 = .ok (.iload_n 1, 1) := by decide +kernel
theorem dX2_requirePart_6 : decode cX2_requirePart 6 = .ok (.if_icmp .lt 11, 3) := by decide +kernel
theorem dX2_requirePart_9 : decode cX2_requirePart 9 = .ok (.iload_n 2, 1) := by decide +kernel
theorem dX2_requirePart_10 : decode cX2_requirePart 10 = .ok (.aload_n 0, 1) := by decide +kernel
theorem dX2_requirePart_11 : decode cX2_requirePart 11 = .ok (.getfield 53, 3) := by decide +kernel
theorem dX2_requirePart_14 : decode cX2_requirePart 14 = .ok (.if_icmp .le 14, 3) := by decide +kernel
theorem dX2_requirePart_17 : decode cX2_requirePart 17 = .ok (.new 212, 3) := by decide +kernel
theorem dX2_requirePart_20 : decode cX2_requirePart 20 = .ok (.dup, 1) := by decide +kernel
theorem dX2_requirePart_21 : decode cX2_requirePart 21 = .ok (.ldc_w 257, 3) := by decide +kernel
theorem dX2_requirePart_24 : decode cX2_requirePart 24 = .ok (.invokespecial 250, 3) := by decide +kernel
theorem dX2_requirePart_27 : decode cX2_requirePart 27 = .ok (.athrow, 1) := by decide +kernel
theorem dX2_requirePart_28 : decode cX2_requirePart 28 = .ok (.return_, 1) := by decide +kernel
theorem dX2_requireWithin_0 : decode cX2_requireWithin 0 = .ok (.iload_n 0, 1) := by decide +kernel
theorem dX2_requireWithin_1 : decode cX2_requireWithin 1 = .ok (.iload_n 1, 1) := by decide +kernel
theorem dX2_requireWithin_2 : decode cX2_requireWithin 2 = .ok (.if_icmp .lt 8, 3) := by decide +kernel
theorem dX2_requireWithin_5 : decode cX2_requireWithin 5 = .ok (.iload_n 0, 1) := by decide +kernel
theorem dX2_requireWithin_6 : decode cX2_requireWithin 6 = .ok (.iload_n 2, 1) := by decide +kernel
theorem dX2_requireWithin_7 : decode cX2_requireWithin 7 = .ok (.if_icmp .le 14, 3) := by decide +kernel
theorem dX2_requireWithin_10 : decode cX2_requireWithin 10 = .ok (.new 214, 3) := by decide +kernel
theorem dX2_requireWithin_13 : decode cX2_requireWithin 13 = .ok (.dup, 1) := by decide +kernel
theorem dX2_requireWithin_14 : decode cX2_requireWithin 14 = .ok (.ldc_w 259, 3) := by decide +kernel
theorem dX2_requireWithin_17 : decode cX2_requireWithin 17 = .ok (.invokespecial 261, 3) := by decide +kernel
theorem dX2_requireWithin_20 : decode cX2_requireWithin 20 = .ok (.athrow, 1) := by decide +kernel
theorem dX2_requireWithin_21 : decode cX2_requireWithin 21 = .ok (.return_, 1) := by decide +kernel
theorem dX2_requireNotNegative_0 : decode cX2_requireNotNegative 0 = .ok (.iload_n 0, 1) := by decide +kernel
theorem dX2_requireNotNegative_1 : decode cX2_requireNotNegative 1 = .ok (.ifCond .ge 14, 3) := by decide +kernel
theorem dX2_requireNotNegative_4 : decode cX2_requireNotNegative 4 = .ok (.new 214, 3) := by decide +kernel
theorem dX2_requireNotNegative_7 : decode cX2_requireNotNegative 7 = .ok (.dup, 1) := by decide +kernel
theorem dX2_requireNotNegative_8 : decode cX2_requireNotNegative 8 = .ok (.ldc_w 262, 3) := by decide +kernel
theorem dX2_requireNotNegative_11 : decode cX2_requireNotNegative 11 = .ok (.invokespecial 261, 3) := by decide +kernel
theorem dX2_requireNotNegative_14 : decode cX2_requireNotNegative 14 = .ok (.athrow, 1) := by decide +kernel
theorem dX2_requireNotNegative_15 : decode cX2_requireNotNegative 15 = .ok (.return_, 1) := by decide +kernel
theorem dX2_requireOrder_0 : decode cX2_requireOrder 0 = .ok (.iload_n 0, 1) := by decide +kernel
theorem dX2_requireOrder_1 : decode cX2_requireOrder 1 = .ok (.ifCond .eq 19, 3) := by decide +kernel
theorem dX2_requireOrder_4 : decode cX2_requireOrder 4 = .ok (.iload_n 0, 1) := by decide +kernel
theorem dX2_requireOrder_5 : decode cX2_requireOrder 5 = .ok (.iconst 1, 1) := by decide +kernel
theorem dX2_requireOrder_6 : decode cX2_requireOrder 6 = .ok (.if_icmp .eq 14, 3) := by decide +kernel
theorem dX2_requireOrder_9 : decode cX2_requireOrder 9 = .ok (.new 214, 3) := by decide +kernel
theorem dX2_requireOrder_12 : decode cX2_requireOrder 12 = .ok (.dup, 1) := by decide +kernel
theorem dX2_requireOrder_13 : decode cX2_requireOrder 13 = .ok (.ldc_w 264, 3) := by decide +kernel
theorem dX2_requireOrder_16 : decode cX2_requireOrder 16 = .ok (.invokespecial 261, 3) := by decide +kernel
theorem dX2_requireOrder_19 : decode cX2_requireOrder 19 = .ok (.athrow, 1) := by decide +kernel
theorem dX2_requireOrder_20 : decode cX2_requireOrder 20 = .ok (.return_, 1) := by decide +kernel
theorem dX2_requireRoom_0 : decode cX2_requireRoom 0 = .ok (.iload_n 1, 1) := by decide +kernel
theorem dX2_requireRoom_1 : decode cX2_requireRoom 1 = .ok (.aload_n 0, 1) := by decide +kernel
theorem dX2_requireRoom_2 : decode cX2_requireRoom 2 = .ok (.getfield 83, 3) := by decide +kernel
theorem dX2_requireRoom_5 : decode cX2_requireRoom 5 = .ok (.arraylength, 1) := by decide +kernel
theorem dX2_requireRoom_6 : decode cX2_requireRoom 6 = .ok (.aload_n 0, 1) := by decide +kernel
theorem dX2_requireRoom_7 : decode cX2_requireRoom 7 = .ok (.getfield 53, 3) := by decide +kernel
theorem dX2_requireRoom_10 : decode cX2_requireRoom 10 = .ok (.isub, 1) := by decide +kernel
theorem dX2_requireRoom_11 : decode cX2_requireRoom 11 = .ok (.if_icmp .le 14, 3) := by decide +kernel
theorem dX2_requireRoom_14 : decode cX2_requireRoom 14 = .ok (.new 92, 3) := by decide +kernel
theorem dX2_requireRoom_17 : decode cX2_requireRoom 17 = .ok (.dup, 1) := by decide +kernel
theorem dX2_requireRoom_18 : decode cX2_requireRoom 18 = .ok (.ldc_w 266, 3) := by decide +kernel
theorem dX2_requireRoom_21 : decode cX2_requireRoom 21 = .ok (.invokespecial 96, 3) := by decide +kernel
theorem dX2_requireRoom_24 : decode cX2_requireRoom 24 = .ok (.athrow, 1) := by decide +kernel
theorem dX2_requireRoom_25 : decode cX2_requireRoom 25 = .ok (.return_, 1) := by decide +kernel
theorem dX2_requireNotEmpty_0 : decode cX2_requireNotEmpty 0 = .ok (.aload_n 0, 1) := by decide +kernel
theorem dX2_requireNotEmpty_1 : decode cX2_requireNotEmpty 1 = .ok (.getfield 53, 3) := by decide +kernel
theorem dX2_requireNotEmpty_4 : decode cX2_requireNotEmpty 4 = .ok (.ifCond .ne 14, 3) := by decide +kernel
theorem dX2_requireNotEmpty_7 : decode cX2_requireNotEmpty 7 = .ok (.new 189, 3) := by decide +kernel
theorem dX2_requireNotEmpty_10 : decode cX2_requireNotEmpty 10 = .ok (.dup, 1) := by decide +kernel
theorem dX2_requireNotEmpty_11 : decode cX2_requireNotEmpty 11 = .ok (.ldc_w 268, 3) := by decide +kernel
theorem dX2_requireNotEmpty_14 : decode cX2_requireNotEmpty 14 = .ok (.invokespecial 193, 3) := by decide +kernel
theorem dX2_requireNotEmpty_17 : decode cX2_requireNotEmpty 17 = .ok (.athrow, 1) := by decide +kernel
theorem dX2_requireNotEmpty_18 : decode cX2_requireNotEmpty 18 = .ok (.return_, 1) := by decide +kernel
