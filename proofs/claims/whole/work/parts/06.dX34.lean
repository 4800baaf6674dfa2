theorem dX3_init_0 : decode cX3_init 0 = .ok (.aload_n 0, 1) := by decide +kernel
theorem dX3_init_1 : decode cX3_init 1 = .ok (.invokespecial 3, 3) := by decide +kernel
theorem dX3_init_4 : decode cX3_init 4 = .ok (.aload_n 0, 1) := by decide +kernel
theorem dX3_init_5 : decode cX3_init 5 = .ok (.bipush 60, 2) := by decide +kernel
theorem dX3_init_7 : decode cX3_init 7 = .ok (.newarray .int, 2) := by decide +kernel
theorem dX3_init_9 : decode cX3_init 9 = .ok (.putfield 9, 3) := by decide +kernel
theorem dX3_init_12 : decode cX3_init 12 = .ok (.return_, 1) := by decide +kernel
theorem dX3_at_0 : decode cX3_at 0 = .ok (.aload_n 0, 1) := by decide +kernel
theorem dX3_at_1 : decode cX3_at 1 = .ok (.getfield 9, 3) := by decide +kernel
theorem dX3_at_4 : decode cX3_at 4 = .ok (.iload_n 1, 1) := by decide +kernel
theorem dX3_at_5 : decode cX3_at 5 = .ok (.iaload, 1) := by decide +kernel
theorem dX3_at_6 : decode cX3_at 6 = .ok (.ireturn, 1) := by decide +kernel
theorem dX3_add_0 : decode cX3_add 0 = .ok (.aload_n 0, 1) := by decide +kernel
theorem dX3_add_1 : decode cX3_add 1 = .ok (.getfield 9, 3) := by decide +kernel
theorem dX3_add_4 : decode cX3_add 4 = .ok (.aload_n 0, 1) := by decide +kernel
theorem dX3_add_5 : decode cX3_add 5 = .ok (.getfield 15, 3) := by decide +kernel
theorem dX3_add_8 : decode cX3_add 8 = .ok (.iload_n 1, 1) := by decide +kernel
theorem dX3_add_9 : decode cX3_add 9 = .ok (.iastore, 1) := by decide +kernel
theorem dX3_add_10 : decode cX3_add 10 = .ok (.aload_n 0, 1) := by decide +kernel
theorem dX3_add_11 : decode cX3_add 11 = .ok (.dup, 1) := by decide +kernel
theorem dX3_add_12 : decode cX3_add 12 = .ok (.getfield 15, 3) := by decide +kernel
theorem dX3_add_15 : decode cX3_add 15 = .ok (.iconst 1, 1) := by decide +kernel
theorem dX3_add_16 : decode cX3_add 16 = .ok (.iadd, 1) := by decide +kernel
theorem dX3_add_17 : decode cX3_add 17 = .ok (.putfield 15, 3) := by decide +kernel
theorem dX3_add_20 : decode cX3_add 20 = .ok (.return_, 1) := by decide +kernel
theorem dX3_insert_0 : decode cX3_insert 0 = .ok (.aload_n 0, 1) := by decide +kernel
theorem dX3_insert_1 : decode cX3_insert 1 = .ok (.getfield 15, 3) := by decide +kernel
theorem dX3_insert_4 : decode cX3_insert 4 = .ok (.istore_n 3, 1) := by decide +kernel
theorem dX3_insert_5 : decode cX3_insert 5 = .ok (.iload_n 3, 1) := by decide +kernel
theorem dX3_insert_6 : decode cX3_insert 6 = .ok (.iload_n 1, 1) := by decide +kernel
theorem dX3_insert_7 : decode cX3_insert 7 = .ok (.if_icmp .le 23, 3) := by decide +kernel
theorem dX3_insert_10 : decode cX3_insert 10 = .ok (.aload_n 0, 1) := by decide +kernel
theorem dX3_insert_11 : decode cX3_insert 11 = .ok (.getfield 9, 3) := by decide +kernel
theorem dX3_insert_14 : decode cX3_insert 14 = .ok (.iload_n 3, 1) := by decide +kernel
theorem dX3_insert_15 : decode cX3_insert 15 = .ok (.aload_n 0, 1) := by decide +kernel
theorem dX3_insert_16 : decode cX3_insert 16 = .ok (.getfield 9, 3) := by decide +kernel
theorem dX3_insert_19 : decode cX3_insert 19 = .ok (.iload_n 3, 1) := by decide +kernel
theorem dX3_insert_20 : decode cX3_insert 20 = .ok (.iconst 1, 1) := by decide +kernel
theorem dX3_insert_21 : decode cX3_insert 21 = .ok (.isub, 1) := by decide +kernel
theorem dX3_insert_22 : decode cX3_insert 22 = .ok (.iaload, 1) := by decide +kernel
theorem dX3_insert_23 : decode cX3_insert 23 = .ok (.iastore, 1) := by decide +kernel
theorem dX3_insert_24 : decode cX3_insert 24 = .ok (.iinc 3 (-1), 3) := by decide +kernel
theorem dX3_insert_27 : decode cX3_insert 27 = .ok (.goto (-22), 3) := by decide +kernel
theorem dX3_insert_30 : decode cX3_insert 30 = .ok (.aload_n 0, 1) := by decide +kernel
theorem dX3_insert_31 : decode cX3_insert 31 = .ok (.getfield 9, 3) := by decide +kernel
theorem dX3_insert_34 : decode cX3_insert 34 = .ok (.iload_n 1, 1) := by decide +kernel
theorem dX3_insert_35 : decode cX3_insert 35 = .ok (.iload_n 2, 1) := by decide +kernel
theorem dX3_insert_36 : decode cX3_insert 36 = .ok (.iastore, 1) := by decide +kernel
theorem dX3_insert_37 : decode cX3_insert 37 = .ok (.aload_n 0, 1) := by decide +kernel
theorem dX3_insert_38 : decode cX3_insert 38 = .ok (.dup, 1) := by decide +kernel
theorem dX3_insert_39 : decode cX3_insert 39 = .ok (.getfield 15, 3) := by decide +kernel
theorem dX3_insert_42 : decode cX3_insert 42 = .ok (.iconst 1, 1) := by decide +kernel
theorem dX3_insert_43 : decode cX3_insert 43 = .ok (.iadd, 1) := by decide +kernel
theorem dX3_insert_44 : decode cX3_insert 44 = .ok (.putfield 15, 3) := by decide +kernel
theorem dX3_insert_47 : decode cX3_insert 47 = .ok (.return_, 1) := by decide +kernel
theorem dX3_remove_0 : decode cX3_remove 0 = .ok (.aload_n 0, 1) := by decide +kernel
theorem dX3_remove_1 : decode cX3_remove 1 = .ok (.getfield 9, 3) := by decide +kernel
theorem dX3_remove_4 : decode cX3_remove 4 = .ok (.iload_n 1, 1) := by decide +kernel
theorem dX3_remove_5 : decode cX3_remove 5 = .ok (.iaload, 1) := by decide +kernel
theorem dX3_remove_6 : decode cX3_remove 6 = .ok (.istore_n 2, 1) := by decide +kernel
theorem dX3_remove_7 : decode cX3_remove 7 = .ok (.aload_n 0, 1) := by decide +kernel
theorem dX3_remove_8 : decode cX3_remove 8 = .ok (.dup, 1) := by decide +kernel
theorem dX3_remove_9 : decode cX3_remove 9 = .ok (.getfield 15, 3) := by decide +kernel
theorem dX3_remove_12 : decode cX3_remove 12 = .ok (.iconst 1, 1) := by decide +kernel
theorem dX3_remove_13 : decode cX3_remove 13 = .ok (.isub, 1) := by decide +kernel
theorem dX3_remove_14 : decode cX3_remove 14 = .ok (.putfield 15, 3) := by decide +kernel
theorem dX3_remove_17 : decode cX3_remove 17 = .ok (.iload_n 1, 1) := by decide +kernel
theorem dX3_remove_18 : decode cX3_remove 18 = .ok (.istore_n 3, 1) := by decide +kernel
theorem dX3_remove_19 : decode cX3_remove 19 = .ok (.iload_n 3, 1) := by decide +kernel
theorem dX3_remove_20 : decode cX3_remove 20 = .ok (.aload_n 0, 1) := by decide +kernel
theorem dX3_remove_21 : decode cX3_remove 21 = .ok (.getfield 15, 3) := by decide +kernel
theorem dX3_remove_24 : decode cX3_remove 24 = .ok (.if_icmp .ge 23, 3) := by decide +kernel
theorem dX3_remove_27 : decode cX3_remove 27 = .ok (.aload_n 0, 1) := by decide +kernel
theorem dX3_remove_28 : decode cX3_remove 28 = .ok (.getfield 9, 3) := by decide +kernel
theorem dX3_remove_31 : decode cX3_remove 31 = .ok (.iload_n 3, 1) := by decide +kernel
theorem dX3_remove_32 : decode cX3_remove 32 = .ok (.aload_n 0, 1) := by decide +kernel
theorem dX3_remove_33 : decode cX3_remove 33 = .ok (.getfield 9, 3) := by decide +kernel
theorem dX3_remove_36 : decode cX3_remove 36 = .ok (.iload_n 3, 1) := by decide +kernel
theorem dX3_remove_37 : decode cX3_remove 37 = .ok (.iconst 1, 1) := by decide +kernel
theorem dX3_remove_38 : decode cX3_remove 38 = .ok (.iadd, 1) := by decide +kernel
theorem dX3_remove_39 : decode cX3_remove 39 = .ok (.iaload, 1) := by decide +kernel
theorem dX3_remove_40 : decode cX3_remove 40 = .ok (.iastore, 1) := by decide +kernel
theorem dX3_remove_41 : decode cX3_remove 41 = .ok (.iinc 3 1, 3) := by decide +kernel
theorem dX3_remove_44 : decode cX3_remove 44 = .ok (.goto (-25), 3) := by decide +kernel
theorem dX3_remove_47 : decode cX3_remove 47 = .ok (.iload_n 2, 1) := by decide +kernel
theorem dX3_remove_48 : decode cX3_remove 48 = .ok (.ireturn, 1) := by decide +kernel
theorem dX3_alike_0 : decode cX3_alike 0 = .ok (.iconst 0, 1) := by decide +kernel
theorem dX3_alike_1 : decode cX3_alike 1 = .ok (.istore 4, 2) := by decide +kernel
theorem dX3_alike_3 : decode cX3_alike 3 = .ok (.iload_n 1, 1) := by decide +kernel
theorem dX3_alike_4 : decode cX3_alike 4 = .ok (.iload 4, 2) := by decide +kernel
theorem dX3_alike_6 : decode cX3_alike 6 = .ok (.iadd, 1) := by decide +kernel
theorem dX3_alike_7 : decode cX3_alike 7 = .ok (.aload_n 0, 1) := by decide +kernel
theorem dX3_alike_8 : decode cX3_alike 8 = .ok (.getfield 15, 3) := by decide +kernel
theorem dX3_alike_11 : decode cX3_alike 11 = .ok (.if_icmp .ge 41, 3) := by decide +kernel
theorem dX3_alike_14 : decode cX3_alike 14 = .ok (.iload_n 3, 1) := by decide +kernel
theorem dX3_alike_15 : decode cX3_alike 15 = .ok (.iload 4, 2) := by decide +kernel
theorem dX3_alike_17 : decode cX3_alike 17 = .ok (.iadd, 1) := by decide +kernel
theorem dX3_alike_18 : decode cX3_alike 18 = .ok (.aload_n 2, 1) := by decide +kernel
theorem dX3_alike_19 : decode cX3_alike 19 = .ok (.getfield 15, 3) := by decide +kernel
theorem dX3_alike_22 : decode cX3_alike 22 = .ok (.if_icmp .ge 30, 3) := by decide +kernel
theorem dX3_alike_25 : decode cX3_alike 25 = .ok (.aload_n 0, 1) := by decide +kernel
theorem dX3_alike_26 : decode cX3_alike 26 = .ok (.getfield 9, 3) := by decide +kernel
theorem dX3_alike_29 : decode cX3_alike 29 = .ok (.iload_n 1, 1) := by decide +kernel
theorem dX3_alike_30 : decode cX3_alike 30 = .ok (.iload 4, 2) := by decide +kernel
theorem dX3_alike_32 : decode cX3_alike 32 = .ok (.iadd, 1) := by decide +kernel
theorem dX3_alike_33 : decode cX3_alike 33 = .ok (.iaload, 1) := by decide +kernel
theorem dX3_alike_34 : decode cX3_alike 34 = .ok (.aload_n 2, 1) := by decide +kernel
theorem dX3_alike_35 : decode cX3_alike 35 = .ok (.getfield 9, 3) := by decide +kernel
theorem dX3_alike_38 : decode cX3_alike 38 = .ok (.iload_n 3, 1) := by decide +kernel
theorem dX3_alike_39 : decode cX3_alike 39 = .ok (.iload 4, 2) := by decide +kernel
theorem dX3_alike_41 : decode cX3_alike 41 = .ok (.iadd, 1) := by decide +kernel
theorem dX3_alike_42 : decode cX3_alike 42 = .ok (.iaload, 1) := by decide +kernel
theorem dX3_alike_43 : decode cX3_alike 43 = .ok (.if_icmp .ne 9, 3) := by decide +kernel
theorem dX3_alike_46 : decode cX3_alike 46 = .ok (.iinc 4 1, 3) := by decide +kernel
theorem dX3_alike_49 : decode cX3_alike 49 = .ok (.goto (-46), 3) := by decide +kernel
theorem dX3_alike_52 : decode cX3_alike 52 = .ok (.iload 4, 2) := by decide +kernel
theorem dX3_alike_54 : decode cX3_alike 54 = .ok (.ireturn, 1) := by decide +kernel
theorem dX3_has_0 : decode cX3_has 0 = .ok (.iload_n 2, 1) := by decide +kernel
theorem dX3_has_1 : decode cX3_has 1 = .ok (.aload_n 1, 1) := by decide +kernel
theorem dX3_has_2 : decode cX3_has 2 = .ok (.getfield 15, 3) := by decide +kernel
theorem dX3_has_5 : decode cX3_has 5 = .ok (.iadd, 1) := by decide +kernel
theorem dX3_has_6 : decode cX3_has 6 = .ok (.aload_n 0, 1) := by decide +kernel
theorem dX3_has_7 : decode cX3_has 7 = .ok (.getfield 15, 3) := by decide +kernel
theorem dX3_has_10 : decode cX3_has 10 = .ok (.if_icmp .gt 21, 3) := by decide +kernel
theorem dX3_has_13 : decode cX3_has 13 = .ok (.aload_n 0, 1) := by decide +kernel
theorem dX3_has_14 : decode cX3_has 14 = .ok (.iload_n 2, 1) := by decide +kernel
theorem dX3_has_15 : decode cX3_has 15 = .ok (.aload_n 1, 1) := by decide +kernel
theorem dX3_has_16 : decode cX3_has 16 = .ok (.iconst 0, 1) := by decide +kernel
theorem dX3_has_17 : decode cX3_has 17 = .ok (.invokevirtual 19, 3) := by decide +kernel
theorem dX3_has_20 : decode cX3_has 20 = .ok (.aload_n 1, 1) := by decide +kernel
theorem dX3_has_21 : decode cX3_has 21 = .ok (.getfield 15, 3) := by decide +kernel
theorem dX3_has_24 : decode cX3_has 24 = .ok (.if_icmp .ne 7, 3) := by decide +kernel
theorem dX3_has_27 : decode cX3_has 27 = .ok (.iconst 1, 1) := by decide +kernel
theorem dX3_has_28 : decode cX3_has 28 = .ok (.goto 4, 3) := by decide +kernel
theorem dX3_has_31 : decode cX3_has 31 = .ok (.iconst 0, 1) := by decide +kernel
theorem dX3_has_32 : decode cX3_has 32 = .ok (.ireturn, 1) := by decide +kernel
theorem dX3_find_0 : decode cX3_find 0 = .ok (.iload_n 2, 1) := by decide +kernel
theorem dX3_find_1 : decode cX3_find 1 = .ok (.istore_n 3, 1) := by decide +kernel
theorem dX3_find_2 : decode cX3_find 2 = .ok (.iload_n 3, 1) := by decide +kernel
theorem dX3_find_3 : decode cX3_find 3 = .ok (.aload_n 1, 1) := by decide +kernel
theorem dX3_find_4 : decode cX3_find 4 = .ok (.getfield 15, 3) := by decide +kernel
theorem dX3_find_7 : decode cX3_find 7 = .ok (.iadd, 1) := by decide +kernel
theorem dX3_find_8 : decode cX3_find 8 = .ok (.aload_n 0, 1) := by decide +kernel
theorem dX3_find_9 : decode cX3_find 9 = .ok (.getfield 15, 3) := by decide +kernel
theorem dX3_find_12 : decode cX3_find 12 = .ok (.if_icmp .gt 20, 3) := by decide +kernel
theorem dX3_find_15 : decode cX3_find 15 = .ok (.aload_n 0, 1) := by decide +kernel
theorem dX3_find_16 : decode cX3_find 16 = .ok (.aload_n 1, 1) := by decide +kernel
theorem dX3_find_17 : decode cX3_find 17 = .ok (.iload_n 3, 1) := by decide +kernel
theorem dX3_find_18 : decode cX3_find 18 = .ok (.invokevirtual 23, 3) := by decide +kernel
theorem dX3_find_21 : decode cX3_find 21 = .ok (.ifCond .eq 5, 3) := by decide +kernel
theorem dX3_find_24 : decode cX3_find 24 = .ok (.iload_n 3, 1) := by decide +kernel
theorem dX3_find_25 : decode cX3_find 25 = .ok (.ireturn, 1) := by decide +kernel
theorem dX3_find_26 : decode cX3_find 26 = .ok (.iinc 3 1, 3) := by decide +kernel
theorem dX3_find_29 : decode cX3_find 29 = .ok (.goto (-27), 3) := by decide +kernel
theorem dX3_find_32 : decode cX3_find 32 = .ok (.iconst (-1), 1) := by decide +kernel
theorem dX3_find_33 : decode cX3_find 33 = .ok (.ireturn, 1) := by decide +kernel
theorem dX3_often_0 : decode cX3_often 0 = .ok (.iconst 0, 1) := by decide +kernel
theorem dX3_often_1 : decode cX3_often 1 = .ok (.istore_n 2, 1) := by decide +kernel
theorem dX3_often_2 : decode cX3_often 2 = .ok (.iconst 0, 1) := by decide +kernel
theorem dX3_often_3 : decode cX3_often 3 = .ok (.istore_n 3, 1) := by decide +kernel
theorem dX3_often_4 : decode cX3_often 4 = .ok (.iload_n 3, 1) := by decide +kernel
theorem dX3_often_5 : decode cX3_often 5 = .ok (.aload_n 0, 1) := by decide +kernel
theorem dX3_often_6 : decode cX3_often 6 = .ok (.getfield 15, 3) := by decide +kernel
theorem dX3_often_9 : decode cX3_often 9 = .ok (.if_icmp .ge 27, 3) := by decide +kernel
theorem dX3_often_12 : decode cX3_often 12 = .ok (.iload_n 2, 1) := by decide +kernel
theorem dX3_often_13 : decode cX3_often 13 = .ok (.aload_n 0, 1) := by decide +kernel
theorem dX3_often_14 : decode cX3_often 14 = .ok (.getfield 9, 3) := by decide +kernel
theorem dX3_often_17 : decode cX3_often 17 = .ok (.iload_n 3, 1) := by decide +kernel
theorem dX3_often_18 : decode cX3_often 18 = .ok (.iaload, 1) := by decide +kernel
theorem dX3_often_19 : decode cX3_often 19 = .ok (.iload_n 1, 1) := by decide +kernel
theorem dX3_often_20 : decode cX3_often 20 = .ok (.if_icmp .ne 7, 3) := by decide +kernel
theorem dX3_often_23 : decode cX3_often 23 = .ok (.iconst 1, 1) := by decide +kernel
theorem dX3_often_24 : decode cX3_often 24 = .ok (.goto 4, 3) := by decide +kernel
theorem dX3_often_27 : decode cX3_often 27 = .ok (.iconst 0, 1) := by decide +kernel
theorem dX3_often_28 : decode cX3_often 28 = .ok (.iadd, 1) := by decide +kernel
theorem dX3_often_29 : decode cX3_often 29 = .ok (.istore_n 2, 1) := by decide +kernel
theorem dX3_often_30 : decode cX3_often 30 = .ok (.iinc 3 1, 3) := by decide +kernel
theorem dX3_often_33 : decode cX3_often 33 = .ok (.goto (-29), 3) := by decide +kernel
theorem dX3_often_36 : decode cX3_often 36 = .ok (.iload_n 2, 1) := by decide +kernel
theorem dX3_often_37 : decode cX3_often 37 = .ok (.ireturn, 1) := by decide +kernel
theorem dX3_count_0 : decode cX3_count 0 = .ok (.iconst 0, 1) := by decide +kernel
theorem dX3_count_1 : decode cX3_count 1 = .ok (.istore_n 3, 1) := by decide +kernel
theorem dX3_count_2 : decode cX3_count 2 = .ok (.aload_n 0, 1) := by decide +kernel
theorem dX3_count_3 : decode cX3_count 3 = .ok (.aload_n 1, 1) := by decide +kernel
theorem dX3_count_4 : decode cX3_count 4 = .ok (.iconst 0, 1) := by decide +kernel
theorem dX3_count_5 : decode cX3_count 5 = .ok (.invokevirtual 27, 3) := by decide +kernel
theorem dX3_count_8 : decode cX3_count 8 = .ok (.istore 4, 2) := by decide +kernel
theorem dX3_count_10 : decode cX3_count 10 = .ok (.iload 4, 2) := by decide +kernel
theorem dX3_count_12 : decode cX3_count 12 = .ok (.iconst (-1), 1) := by decide +kernel
theorem dX3_count_13 : decode cX3_count 13 = .ok (.if_icmp .eq 35, 3) := by decide +kernel
theorem dX3_count_16 : decode cX3_count 16 = .ok (.iinc 3 1, 3) := by decide +kernel
theorem dX3_count_19 : decode cX3_count 19 = .ok (.aload_n 0, 1) := by decide +kernel
theorem dX3_count_20 : decode cX3_count 20 = .ok (.aload_n 1, 1) := by decide +kernel
theorem dX3_count_21 : decode cX3_count 21 = .ok (.iload 4, 2) := by decide +kernel
theorem dX3_count_23 : decode cX3_count 23 = .ok (.iload_n 2, 1) := by decide +kernel
theorem dX3_count_24 : decode cX3_count 24 = .ok (.ifCond .eq 14, 3) := by decide +kernel
theorem dX3_count_27 : decode cX3_count 27 = .ok (.iconst 1, 1) := by decide +kernel
theorem dX3_count_28 : decode cX3_count 28 = .ok (.aload_n 1, 1) := by decide +kernel
theorem dX3_count_29 : decode cX3_count 29 = .ok (.getfield 15, 3) := by decide +kernel
theorem dX3_count_32 : decode cX3_count 32 = .ok (.invokestatic 31, 3) := by decide +kernel
theorem dX3_count_35 : decode cX3_count 35 = .ok (.goto 4, 3) := by decide +kernel
theorem dX3_count_38 : decode cX3_count 38 = .ok (.iconst 1, 1) := by decide +kernel
theorem dX3_count_39 : decode cX3_count 39 = .ok (.iadd, 1) := by decide +kernel
theorem dX3_count_40 : decode cX3_count 40 = .ok (.invokevirtual 27, 3) := by decide +kernel
theorem dX3_count_43 : decode cX3_count 43 = .ok (.istore 4, 2) := by decide +kernel
theorem dX3_count_45 : decode cX3_count 45 = .ok (.goto (-35), 3) := by decide +kernel
theorem dX3_count_48 : decode cX3_count 48 = .ok (.iload_n 3, 1) := by decide +kernel
theorem dX3_count_49 : decode cX3_count 49 = .ok (.ireturn, 1) := by decide +kernel
theorem dX3_swap_0 : decode cX3_swap 0 = .ok (.aload_n 0, 1) := by decide +kernel
theorem dX3_swap_1 : decode cX3_swap 1 = .ok (.getfield 9, 3) := by decide +kernel
theorem dX3_swap_4 : decode cX3_swap 4 = .ok (.iload_n 1, 1) := by decide +kernel
theorem dX3_swap_5 : decode cX3_swap 5 = .ok (.iaload, 1) := by decide +kernel
theorem dX3_swap_6 : decode cX3_swap 6 = .ok (.istore_n 3, 1) := by decide +kernel
theorem dX3_swap_7 : decode cX3_swap 7 = .ok (.aload_n 0, 1) := by decide +kernel
theorem dX3_swap_8 : decode cX3_swap 8 = .ok (.getfield 9, 3) := by decide +kernel
theorem dX3_swap_11 : decode cX3_swap 11 = .ok (.iload_n 1, 1) := by decide +kernel
theorem dX3_swap_12 : decode cX3_swap 12 = .ok (.aload_n 0, 1) := by decide +kernel
theorem dX3_swap_13 : decode cX3_swap 13 = .ok (.getfield 9, 3) := by decide +kernel
theorem dX3_swap_16 : decode cX3_swap 16 = .ok (.iload_n 2, 1) := by decide +kernel
theorem dX3_swap_17 : decode cX3_swap 17 = .ok (.iaload, 1) := by decide +kernel
theorem dX3_swap_18 : decode cX3_swap 18 = .ok (.iastore, 1) := by decide +kernel
theorem dX3_swap_19 : decode cX3_swap 19 = .ok (.aload_n 0, 1) := by decide +kernel
theorem dX3_swap_20 : decode cX3_swap 20 = .ok (.getfield 9, 3) := by decide +kernel
theorem dX3_swap_23 : decode cX3_swap 23 = .ok (.iload_n 2, 1) := by decide +kernel
theorem dX3_swap_24 : decode cX3_swap 24 = .ok (.iload_n 3, 1) := by decide +kernel
theorem dX3_swap_25 : decode cX3_swap 25 = .ok (.iastore, 1) := by decide +kernel
theorem dX3_swap_26 : decode cX3_swap 26 = .ok (.return_, 1) := by decide +kernel
theorem dX3_takes_0 : decode cX3_takes 0 = .ok (.aload_n 0, 1) := by decide +kernel
theorem dX3_takes_1 : decode cX3_takes 1 = .ok (.iconst 0, 1) := by decide +kernel
theorem dX3_takes_2 : decode cX3_takes 2 = .ok (.putfield 15, 3) := by decide +kernel
theorem dX3_takes_5 : decode cX3_takes 5 = .ok (.iconst 0, 1) := by decide +kernel
theorem dX3_takes_6 : decode cX3_takes 6 = .ok (.istore_n 2, 1) := by decide +kernel
theorem dX3_takes_7 : decode cX3_takes 7 = .ok (.iload_n 2, 1) := by decide +kernel
theorem dX3_takes_8 : decode cX3_takes 8 = .ok (.aload_n 1, 1) := by decide +kernel
theorem dX3_takes_9 : decode cX3_takes 9 = .ok (.getfield 15, 3) := by decide +kernel
theorem dX3_takes_12 : decode cX3_takes 12 = .ok (.if_icmp .ge 19, 3) := by decide +kernel
theorem dX3_takes_15 : decode cX3_takes 15 = .ok (.aload_n 0, 1) := by decide +kernel
theorem dX3_takes_16 : decode cX3_takes 16 = .ok (.aload_n 1, 1) := by decide +kernel
theorem dX3_takes_17 : decode cX3_takes 17 = .ok (.getfield 9, 3) := by decide +kernel
theorem dX3_takes_20 : decode cX3_takes 20 = .ok (.iload_n 2, 1) := by decide +kernel
theorem dX3_takes_21 : decode cX3_takes 21 = .ok (.iaload, 1) := by decide +kernel
theorem dX3_takes_22 : decode cX3_takes 22 = .ok (.invokevirtual 37, 3) := by decide +kernel
theorem dX3_takes_25 : decode cX3_takes 25 = .ok (.iinc 2 1, 3) := by decide +kernel
theorem dX3_takes_28 : decode cX3_takes 28 = .ok (.goto (-21), 3) := by decide +kernel
theorem dX3_takes_31 : decode cX3_takes 31 = .ok (.return_, 1) := by decide +kernel
theorem dX3_others_0 : decode cX3_others 0 = .ok (.iconst 0, 1) := by decide +kernel
theorem dX3_others_1 : decode cX3_others 1 = .ok (.istore_n 2, 1) := by decide +kernel
theorem dX3_others_2 : decode cX3_others 2 = .ok (.iconst 0, 1) := by decide +kernel
theorem dX3_others_3 : decode cX3_others 3 = .ok (.istore_n 3, 1) := by decide +kernel
theorem dX3_others_4 : decode cX3_others 4 = .ok (.iload_n 3, 1) := by decide +kernel
theorem dX3_others_5 : decode cX3_others 5 = .ok (.aload_n 0, 1) := by decide +kernel
theorem dX3_others_6 : decode cX3_others 6 = .ok (.getfield 15, 3) := by decide +kernel
theorem dX3_others_9 : decode cX3_others 9 = .ok (.if_icmp .ge 32, 3) := by decide +kernel
theorem dX3_others_12 : decode cX3_others 12 = .ok (.iload_n 2, 1) := by decide +kernel
theorem dX3_others_13 : decode cX3_others 13 = .ok (.aload_n 0, 1) := by decide +kernel
theorem dX3_others_14 : decode cX3_others 14 = .ok (.getfield 9, 3) := by decide +kernel
theorem dX3_others_17 : decode cX3_others 17 = .ok (.iload_n 3, 1) := by decide +kernel
theorem dX3_others_18 : decode cX3_others 18 = .ok (.iaload, 1) := by decide +kernel
theorem dX3_others_19 : decode cX3_others 19 = .ok (.aload_n 1, 1) := by decide +kernel
theorem dX3_others_20 : decode cX3_others 20 = .ok (.getfield 9, 3) := by decide +kernel
theorem dX3_others_23 : decode cX3_others 23 = .ok (.iload_n 3, 1) := by decide +kernel
theorem dX3_others_24 : decode cX3_others 24 = .ok (.iaload, 1) := by decide +kernel
theorem dX3_others_25 : decode cX3_others 25 = .ok (.if_icmp .ne 7, 3) := by decide +kernel
theorem dX3_others_28 : decode cX3_others 28 = .ok (.iconst 0, 1) := by decide +kernel
theorem dX3_others_29 : decode cX3_others 29 = .ok (.goto 4, 3) := by decide +kernel
theorem dX3_others_32 : decode cX3_others 32 = .ok (.iconst 1, 1) := by decide +kernel
theorem dX3_others_33 : decode cX3_others 33 = .ok (.iadd, 1) := by decide +kernel
theorem dX3_others_34 : decode cX3_others 34 = .ok (.istore_n 2, 1) := by decide +kernel
theorem dX3_others_35 : decode cX3_others 35 = .ok (.iinc 3 1, 3) := by decide +kernel
theorem dX3_others_38 : decode cX3_others 38 = .ok (.goto (-34), 3) := by decide +kernel
theorem dX3_others_41 : decode cX3_others 41 = .ok (.iload_n 2, 1) := by decide +kernel
theorem dX3_others_42 : decode cX3_others 42 = .ok (.ireturn, 1) := by decide +kernel
theorem dX4_thrown_0 : decode cX4_thrown 0 = .ok (.aload_n 0, 1) := by decide +kernel
theorem dX4_thrown_1 : decode cX4_thrown 1 = .ok (.getfield 1, 3) := by decide +kernel
theorem dX4_thrown_4 : decode cX4_thrown 4 = .ok (.ireturn, 1) := by decide +kernel
theorem dX4_in_0 : decode cX4_in 0 = .ok (.lload_n 0, 1) := by decide +kernel
theorem dX4_in_1 : decode cX4_in 1 = .ok (.lload_n 2, 1) := by decide +kernel
theorem dX4_in_2 : decode cX4_in 2 = .ok (.lcmp, 1) := by decide +kernel
theorem dX4_in_3 : decode cX4_in 3 = .ok (.ifCond .lt 14, 3) := by decide +kernel
theorem dX4_in_6 : decode cX4_in 6 = .ok (.lload_n 0, 1) := by decide +kernel
theorem dX4_in_7 : decode cX4_in 7 = .ok (.lload 4, 2) := by decide +kernel
theorem dX4_in_9 : decode cX4_in 9 = .ok (.lcmp, 1) := by decide +kernel
theorem dX4_in_10 : decode cX4_in 10 = .ok (.ifCond .gt 7, 3) := by decide +kernel
theorem dX4_in_13 : decode cX4_in 13 = .ok (.iconst 1, 1) := by decide +kernel
theorem dX4_in_14 : decode cX4_in 14 = .ok (.goto 4, 3) := by decide +kernel
theorem dX4_in_17 : decode cX4_in 17 = .ok (.iconst 0, 1) := by decide +kernel
theorem dX4_in_18 : decode cX4_in 18 = .ok (.ireturn, 1) := by decide +kernel
theorem dX4_passes_0 : decode cX4_passes 0 = .ok (.aload_n 0, 1) := by decide +kernel
theorem dX4_passes_1 : decode cX4_passes 1 = .ok (.iload_n 1, 1) := by decide +kernel
theorem dX4_passes_2 : decode cX4_passes 2 = .ok (.ifCond .ne 7, 3) := by decide +kernel
theorem dX4_passes_5 : decode cX4_passes 5 = .ok (.iconst 1, 1) := by decide +kernel
theorem dX4_passes_6 : decode cX4_passes 6 = .ok (.goto 20, 3) := by decide +kernel
theorem dX4_passes_9 : decode cX4_passes 9 = .ok (.iload_n 2, 1) := by decide +kernel
theorem dX4_passes_10 : decode cX4_passes 10 = .ok (.ifCond .ne 7, 3) := by decide +kernel
theorem dX4_passes_13 : decode cX4_passes 13 = .ok (.iconst 2, 1) := by decide +kernel
theorem dX4_passes_14 : decode cX4_passes 14 = .ok (.goto 12, 3) := by decide +kernel
theorem dX4_passes_17 : decode cX4_passes 17 = .ok (.iload_n 3, 1) := by decide +kernel
theorem dX4_passes_18 : decode cX4_passes 18 = .ok (.ifCond .ne 7, 3) := by decide +kernel
theorem dX4_passes_21 : decode cX4_passes 21 = .ok (.iconst 3, 1) := by decide +kernel
theorem dX4_passes_22 : decode cX4_passes 22 = .ok (.goto 4, 3) := by decide +kernel
theorem dX4_passes_25 : decode cX4_passes 25 = .ok (.iconst 0, 1) := by decide +kernel
theorem dX4_passes_26 : decode cX4_passes 26 = .ok (.putfield 1, 3) := by decide +kernel
theorem dX4_passes_29 : decode cX4_passes 29 = .ok (.aload_n 0, 1) := by decide +kernel
theorem dX4_passes_30 : decode cX4_passes 30 = .ok (.getfield 1, 3) := by decide +kernel
theorem dX4_passes_33 : decode cX4_passes 33 = .ok (.ifCond .ne 7, 3) := by decide +kernel
theorem dX4_passes_36 : decode cX4_passes 36 = .ok (.iconst 1, 1) := by decide +kernel
theorem dX4_passes_37 : decode cX4_passes 37 = .ok (.goto 4, 3) := by decide +kernel
theorem dX4_passes_40 : decode cX4_passes 40 = .ok (.iconst 0, 1) := by decide +kernel
theorem dX4_passes_41 : decode cX4_passes 41 = .ok (.ireturn, 1) := by decide +kernel
theorem dX4_isText_0 : decode cX4_isText 0 = .ok (.iload_n 0, 1) := by decide +kernel
theorem dX4_isText_1 : decode cX4_isText 1 = .ok (.i2l, 1) := by decide +kernel
theorem dX4_isText_2 : decode cX4_isText 2 = .ok (.lconst 0, 1) := by decide +kernel
theorem dX4_isText_3 : decode cX4_isText 3 = .ok (.ldc2_w 7, 3) := by decide +kernel
theorem dX4_isText_6 : decode cX4_isText 6 = .ok (.invokestatic 9, 3) := by decide +kernel
theorem dX4_isText_9 : decode cX4_isText 9 = .ok (.ireturn, 1) := by decide +kernel
theorem dX4_isWord_0 : decode cX4_isWord 0 = .ok (.iload_n 0, 1) := by decide +kernel
theorem dX4_isWord_1 : decode cX4_isWord 1 = .ok (.i2l, 1) := by decide +kernel
theorem dX4_isWord_2 : decode cX4_isWord 2 = .ok (.lconst 0, 1) := by decide +kernel
theorem dX4_isWord_3 : decode cX4_isWord 3 = .ok (.ldc2_w 13, 3) := by decide +kernel
theorem dX4_isWord_6 : decode cX4_isWord 6 = .ok (.invokestatic 9, 3) := by decide +kernel
theorem dX4_isWord_9 : decode cX4_isWord 9 = .ok (.ireturn, 1) := by decide +kernel
theorem dX4_isPhrase_0 : decode cX4_isPhrase 0 = .ok (.iload_n 0, 1) := by decide +kernel
theorem dX4_isPhrase_1 : decode cX4_isPhrase 1 = .ok (.i2l, 1) := by decide +kernel
theorem dX4_isPhrase_2 : decode cX4_isPhrase 2 = .ok (.lconst 0, 1) := by decide +kernel
theorem dX4_isPhrase_3 : decode cX4_isPhrase 3 = .ok (.lconst 1, 1) := by decide +kernel
theorem dX4_isPhrase_4 : decode cX4_isPhrase 4 = .ok (.invokestatic 9, 3) := by decide +kernel
theorem dX4_isPhrase_7 : decode cX4_isPhrase 7 = .ok (.ireturn, 1) := by decide +kernel
theorem dX4_isOrder_0 : decode cX4_isOrder 0 = .ok (.iload_n 0, 1) := by decide +kernel
theorem dX4_isOrder_1 : decode cX4_isOrder 1 = .ok (.i2l, 1) := by decide +kernel
theorem dX4_isOrder_2 : decode cX4_isOrder 2 = .ok (.lconst 0, 1) := by decide +kernel
theorem dX4_isOrder_3 : decode cX4_isOrder 3 = .ok (.lconst 1, 1) := by decide +kernel
theorem dX4_isOrder_4 : decode cX4_isOrder 4 = .ok (.invokestatic 9, 3) := by decide +kernel
theorem dX4_isOrder_7 : decode cX4_isOrder 7 = .ok (.ireturn, 1) := by decide +kernel
theorem dX4_init_0 : decode cX4_init 0 = .ok (.aload_n 0, 1) := by decide +kernel
theorem dX4_init_1 : decode cX4_init 1 = .ok (.invokespecial 15, 3) := by decide +kernel
theorem dX4_init_4 : decode cX4_init 4 = .ok (.aload_n 0, 1) := by decide +kernel
theorem dX4_init_5 : decode cX4_init 5 = .ok (.iconst 4, 1) := by decide +kernel
theorem dX4_init_6 : decode cX4_init 6 = .ok (.anewarray 21, 3) := by decide +kernel
theorem dX4_init_9 : decode cX4_init 9 = .ok (.dup, 1) := by decide +kernel
theorem dX4_init_10 : decode cX4_init 10 = .ok (.iconst 0, 1) := by decide +kernel
theorem dX4_init_11 : decode cX4_init 11 = .ok (.new 21, 3) := by decide +kernel
theorem dX4_init_14 : decode cX4_init 14 = .ok (.dup, 1) := by decide +kernel
theorem dX4_init_15 : decode cX4_init 15 = .ok (.invokespecial 23, 3) := by decide +kernel
theorem dX4_init_18 : decode cX4_init 18 = .ok (.aastore, 1) := by decide +kernel
theorem dX4_init_19 : decode cX4_init 19 = .ok (.dup, 1) := by decide +kernel
theorem dX4_init_20 : decode cX4_init 20 = .ok (.iconst 1, 1) := by decide +kernel
theorem dX4_init_21 : decode cX4_init 21 = .ok (.new 21, 3) := by decide +kernel
theorem dX4_init_24 : decode cX4_init 24 = .ok (.dup, 1) := by decide +kernel
theorem dX4_init_25 : decode cX4_init 25 = .ok (.invokespecial 23, 3) := by decide +kernel
theorem dX4_init_28 : decode cX4_init 28 = .ok (.aastore, 1) := by decide +kernel
theorem dX4_init_29 : decode cX4_init 29 = .ok (.dup, 1) := by decide +kernel
theorem dX4_init_30 : decode cX4_init 30 = .ok (.iconst 2, 1) := by decide +kernel
theorem dX4_init_31 : decode cX4_init 31 = .ok (.new 21, 3) := by decide +kernel
theorem dX4_init_34 : decode cX4_init 34 = .ok (.dup, 1) := by decide +kernel
theorem dX4_init_35 : decode cX4_init 35 = .ok (.invokespecial 23, 3) := by decide +kernel
theorem dX4_init_38 : decode cX4_init 38 = .ok (.aastore, 1) := by decide +kernel
theorem dX4_init_39 : decode cX4_init 39 = .ok (.dup, 1) := by decide +kernel
theorem dX4_init_40 : decode cX4_init 40 = .ok (.iconst 3, 1) := by decide +kernel
theorem dX4_init_41 : decode cX4_init 41 = .ok (.new 21, 3) := by decide +kernel
theorem dX4_init_44 : decode cX4_init 44 = .ok (.dup, 1) := by decide +kernel
theorem dX4_init_45 : decode cX4_init 45 = .ok (.invokespecial 23, 3) := by decide +kernel
theorem dX4_init_48 : decode cX4_init 48 = .ok (.aastore, 1) := by decide +kernel
theorem dX4_init_49 : decode cX4_init 49 = .ok (.putfield 24, 3) := by decide +kernel
theorem dX4_init_52 : decode cX4_init 52 = .ok (.aload_n 0, 1) := by decide +kernel
theorem dX4_init_53 : decode cX4_init 53 = .ok (.iconst 2, 1) := by decide +kernel
theorem dX4_init_54 : decode cX4_init 54 = .ok (.anewarray 21, 3) := by decide +kernel
theorem dX4_init_57 : decode cX4_init 57 = .ok (.dup, 1) := by decide +kernel
theorem dX4_init_58 : decode cX4_init 58 = .ok (.iconst 0, 1) := by decide +kernel
theorem dX4_init_59 : decode cX4_init 59 = .ok (.new 21, 3) := by decide +kernel
theorem dX4_init_62 : decode cX4_init 62 = .ok (.dup, 1) := by decide +kernel
theorem dX4_init_63 : decode cX4_init 63 = .ok (.invokespecial 23, 3) := by decide +kernel
theorem dX4_init_66 : decode cX4_init 66 = .ok (.aastore, 1) := by decide +kernel
theorem dX4_init_67 : decode cX4_init 67 = .ok (.dup, 1) := by decide +kernel
theorem dX4_init_68 : decode cX4_init 68 = .ok (.iconst 1, 1) := by decide +kernel
theorem dX4_init_69 : decode cX4_init 69 = .ok (.new 21, 3) := by decide +kernel
theorem dX4_init_72 : decode cX4_init 72 = .ok (.dup, 1) := by decide +kernel
theorem dX4_init_73 : decode cX4_init 73 = .ok (.invokespecial 23, 3) := by decide +kernel
theorem dX4_init_76 : decode cX4_init 76 = .ok (.aastore, 1) := by decide +kernel
theorem dX4_init_77 : decode cX4_init 77 = .ok (.putfield 28, 3) := by decide +kernel
theorem dX4_init_80 : decode cX4_init 80 = .ok (.aload_n 0, 1) := by decide +kernel
theorem dX4_init_81 : decode cX4_init 81 = .ok (.new 21, 3) := by decide +kernel
theorem dX4_init_84 : decode cX4_init 84 = .ok (.dup, 1) := by decide +kernel
theorem dX4_init_85 : decode cX4_init 85 = .ok (.invokespecial 23, 3) := by decide +kernel
theorem dX4_init_88 : decode cX4_init 88 = .ok (.putfield 31, 3) := by decide +kernel
theorem dX4_init_91 : decode cX4_init 91 = .ok (.aload_n 0, 1) := by decide +kernel
theorem dX4_init_92 : decode cX4_init 92 = .ok (.bipush 100, 2) := by decide +kernel
theorem dX4_init_94 : decode cX4_init 94 = .ok (.newarray .int, 2) := by decide +kernel
theorem dX4_init_96 : decode cX4_init 96 = .ok (.putfield 35, 3) := by decide +kernel
theorem dX4_init_99 : decode cX4_init 99 = .ok (.aload_n 0, 1) := by decide +kernel
theorem dX4_init_100 : decode cX4_init 100 = .ok (.iconst 0, 1) := by decide +kernel
theorem dX4_init_101 : decode cX4_init 101 = .ok (.putfield 1, 3) := by decide +kernel
theorem dX4_init_104 : decode cX4_init 104 = .ok (.return_, 1) := by decide +kernel
theorem dX4_isPlace_0 : decode cX4_isPlace 0 = .ok (.iload_n 1, 1) := by decide +kernel
theorem dX4_isPlace_1 : decode cX4_isPlace 1 = .ok (.invokestatic 39, 3) := by decide +kernel
theorem dX4_isPlace_4 : decode cX4_isPlace 4 = .ok (.ifCond .eq 28, 3) := by decide +kernel
theorem dX4_isPlace_7 : decode cX4_isPlace 7 = .ok (.iload_n 2, 1) := by decide +kernel
theorem dX4_isPlace_8 : decode cX4_isPlace 8 = .ok (.i2l, 1) := by decide +kernel
theorem dX4_isPlace_9 : decode cX4_isPlace 9 = .ok (.lconst 0, 1) := by decide +kernel
theorem dX4_isPlace_10 : decode cX4_isPlace 10 = .ok (.aload_n 0, 1) := by decide +kernel
theorem dX4_isPlace_11 : decode cX4_isPlace 11 = .ok (.getfield 24, 3) := by decide +kernel
theorem dX4_isPlace_14 : decode cX4_isPlace 14 = .ok (.iload_n 1, 1) := by decide +kernel
theorem dX4_isPlace_15 : decode cX4_isPlace 15 = .ok (.aaload, 1) := by decide +kernel
theorem dX4_isPlace_16 : decode cX4_isPlace 16 = .ok (.getfield 43, 3) := by decide +kernel
theorem dX4_isPlace_19 : decode cX4_isPlace 19 = .ok (.iconst 1, 1) := by decide +kernel
theorem dX4_isPlace_20 : decode cX4_isPlace 20 = .ok (.isub, 1) := by decide +kernel
theorem dX4_isPlace_21 : decode cX4_isPlace 21 = .ok (.i2l, 1) := by decide +kernel
theorem dX4_isPlace_22 : decode cX4_isPlace 22 = .ok (.invokestatic 9, 3) := by decide +kernel
theorem dX4_isPlace_25 : decode cX4_isPlace 25 = .ok (.ifCond .eq 7, 3) := by decide +kernel
theorem dX4_isPlace_28 : decode cX4_isPlace 28 = .ok (.iconst 1, 1) := by decide +kernel
theorem dX4_isPlace_29 : decode cX4_isPlace 29 = .ok (.goto 4, 3) := by decide +kernel
theorem dX4_isPlace_32 : decode cX4_isPlace 32 = .ok (.iconst 0, 1) := by decide +kernel
theorem dX4_isPlace_33 : decode cX4_isPlace 33 = .ok (.ireturn, 1) := by decide +kernel
theorem dX4_isPart_0 : decode cX4_isPart 0 = .ok (.iload_n 1, 1) := by decide +kernel
theorem dX4_isPart_1 : decode cX4_isPart 1 = .ok (.invokestatic 39, 3) := by decide +kernel
theorem dX4_isPart_4 : decode cX4_isPart 4 = .ok (.ifCond .eq 46, 3) := by decide +kernel
theorem dX4_isPart_7 : decode cX4_isPart 7 = .ok (.iload_n 2, 1) := by decide +kernel
theorem dX4_isPart_8 : decode cX4_isPart 8 = .ok (.i2l, 1) := by decide +kernel
theorem dX4_isPart_9 : decode cX4_isPart 9 = .ok (.lconst 0, 1) := by decide +kernel
theorem dX4_isPart_10 : decode cX4_isPart 10 = .ok (.aload_n 0, 1) := by decide +kernel
theorem dX4_isPart_11 : decode cX4_isPart 11 = .ok (.getfield 24, 3) := by decide +kernel
theorem dX4_isPart_14 : decode cX4_isPart 14 = .ok (.iload_n 1, 1) := by decide +kernel
theorem dX4_isPart_15 : decode cX4_isPart 15 = .ok (.aaload, 1) := by decide +kernel
theorem dX4_isPart_16 : decode cX4_isPart 16 = .ok (.getfield 43, 3) := by decide +kernel
theorem dX4_isPart_19 : decode cX4_isPart 19 = .ok (.i2l, 1) := by decide +kernel
theorem dX4_isPart_20 : decode cX4_isPart 20 = .ok (.invokestatic 9, 3) := by decide +kernel
theorem dX4_isPart_23 : decode cX4_isPart 23 = .ok (.ifCond .eq 27, 3) := by decide +kernel
theorem dX4_isPart_26 : decode cX4_isPart 26 = .ok (.iload_n 3, 1) := by decide +kernel
theorem dX4_isPart_27 : decode cX4_isPart 27 = .ok (.i2l, 1) := by decide +kernel
theorem dX4_isPart_28 : decode cX4_isPart 28 = .ok (.iload_n 2, 1) := by decide +kernel
theorem dX4_isPart_29 : decode cX4_isPart 29 = .ok (.i2l, 1) := by decide +kernel
theorem dX4_isPart_30 : decode cX4_isPart 30 = .ok (.aload_n 0, 1) := by decide +kernel
theorem dX4_isPart_31 : decode cX4_isPart 31 = .ok (.getfield 24, 3) := by decide +kernel
theorem dX4_isPart_34 : decode cX4_isPart 34 = .ok (.iload_n 1, 1) := by decide +kernel
theorem dX4_isPart_35 : decode cX4_isPart 35 = .ok (.aaload, 1) := by decide +kernel
theorem dX4_isPart_36 : decode cX4_isPart 36 = .ok (.getfield 43, 3) := by decide +kernel
theorem dX4_isPart_39 : decode cX4_isPart 39 = .ok (.i2l, 1) := by decide +kernel
theorem dX4_isPart_40 : decode cX4_isPart 40 = .ok (.invokestatic 9, 3) := by decide +kernel
theorem dX4_isPart_43 : decode cX4_isPart 43 = .ok (.ifCond .eq 7, 3) := by decide +kernel
theorem dX4_isPart_46 : decode cX4_isPart 46 = .ok (.iconst 1, 1) := by decide +kernel
theorem dX4_isPart_47 : decode cX4_isPart 47 = .ok (.goto 4, 3) := by decide +kernel
theorem dX4_isPart_50 : decode cX4_isPart 50 = .ok (.iconst 0, 1) := by decide +kernel
theorem dX4_isPart_51 : decode cX4_isPart 51 = .ok (.ireturn, 1) := by decide +kernel
theorem dX4_hasRoom_0 : decode cX4_hasRoom 0 = .ok (.iload_n 1, 1) := by decide +kernel
theorem dX4_hasRoom_1 : decode cX4_hasRoom 1 = .ok (.invokestatic 39, 3) := by decide +kernel
theorem dX4_hasRoom_4 : decode cX4_hasRoom 4 = .ok (.ifCond .eq 26, 3) := by decide +kernel
theorem dX4_hasRoom_7 : decode cX4_hasRoom 7 = .ok (.aload_n 0, 1) := by decide +kernel
theorem dX4_hasRoom_8 : decode cX4_hasRoom 8 = .ok (.getfield 24, 3) := by decide +kernel
theorem dX4_hasRoom_11 : decode cX4_hasRoom 11 = .ok (.iload_n 1, 1) := by decide +kernel
theorem dX4_hasRoom_12 : decode cX4_hasRoom 12 = .ok (.aaload, 1) := by decide +kernel
theorem dX4_hasRoom_13 : decode cX4_hasRoom 13 = .ok (.getfield 43, 3) := by decide +kernel
theorem dX4_hasRoom_16 : decode cX4_hasRoom 16 = .ok (.i2l, 1) := by decide +kernel
theorem dX4_hasRoom_17 : decode cX4_hasRoom 17 = .ok (.lload_n 2, 1) := by decide +kernel
theorem dX4_hasRoom_18 : decode cX4_hasRoom 18 = .ok (.ladd, 1) := by decide +kernel
theorem dX4_hasRoom_19 : decode cX4_hasRoom 19 = .ok (.ldc2_w 46, 3) := by decide +kernel
theorem dX4_hasRoom_22 : decode cX4_hasRoom 22 = .ok (.lcmp, 1) := by decide +kernel
theorem dX4_hasRoom_23 : decode cX4_hasRoom 23 = .ok (.ifCond .gt 7, 3) := by decide +kernel
theorem dX4_hasRoom_26 : decode cX4_hasRoom 26 = .ok (.iconst 1, 1) := by decide +kernel
theorem dX4_hasRoom_27 : decode cX4_hasRoom 27 = .ok (.goto 4, 3) := by decide +kernel
theorem dX4_hasRoom_30 : decode cX4_hasRoom 30 = .ok (.iconst 0, 1) := by decide +kernel
theorem dX4_hasRoom_31 : decode cX4_hasRoom 31 = .ok (.ireturn, 1) := by decide +kernel
theorem dX4_add_0 : decode cX4_add 0 = .ok (.aload_n 0, 1) := by decide +kernel
theorem dX4_add_1 : decode cX4_add 1 = .ok (.iload_n 1, 1) := by decide +kernel
theorem dX4_add_2 : decode cX4_add 2 = .ok (.invokestatic 39, 3) := by decide +kernel
theorem dX4_add_5 : decode cX4_add 5 = .ok (.ifCond .eq 14, 3) := by decide +kernel
theorem dX4_add_8 : decode cX4_add 8 = .ok (.iload_n 2, 1) := by decide +kernel
theorem dX4_add_9 : decode cX4_add 9 = .ok (.invokestatic 48, 3) := by decide +kernel
theorem dX4_add_12 : decode cX4_add 12 = .ok (.ifCond .eq 7, 3) := by decide +kernel
theorem dX4_add_15 : decode cX4_add 15 = .ok (.iconst 1, 1) := by decide +kernel
theorem dX4_add_16 : decode cX4_add 16 = .ok (.goto 4, 3) := by decide +kernel
theorem dX4_add_19 : decode cX4_add 19 = .ok (.iconst 0, 1) := by decide +kernel
theorem dX4_add_20 : decode cX4_add 20 = .ok (.aload_n 0, 1) := by decide +kernel
theorem dX4_add_21 : decode cX4_add 21 = .ok (.iload_n 1, 1) := by decide +kernel
theorem dX4_add_22 : decode cX4_add 22 = .ok (.lconst 1, 1) := by decide +kernel
theorem dX4_add_23 : decode cX4_add 23 = .ok (.invokevirtual 51, 3) := by decide +kernel
theorem dX4_add_26 : decode cX4_add 26 = .ok (.iconst 1, 1) := by decide +kernel
theorem dX4_add_27 : decode cX4_add 27 = .ok (.invokevirtual 55, 3) := by decide +kernel
theorem dX4_add_30 : decode cX4_add 30 = .ok (.ifCond .ne 5, 3) := by decide +kernel
theorem dX4_add_33 : decode cX4_add 33 = .ok (.iconst 0, 1) := by decide +kernel
theorem dX4_add_34 : decode cX4_add 34 = .ok (.ireturn, 1) := by decide +kernel
theorem dX4_add_35 : decode cX4_add 35 = .ok (.aload_n 0, 1) := by decide +kernel
theorem dX4_add_36 : decode cX4_add 36 = .ok (.getfield 24, 3) := by decide +kernel
theorem dX4_add_39 : decode cX4_add 39 = .ok (.iload_n 1, 1) := by decide +kernel
theorem dX4_add_40 : decode cX4_add 40 = .ok (.aaload, 1) := by decide +kernel
theorem dX4_add_41 : decode cX4_add 41 = .ok (.iload_n 2, 1) := by decide +kernel
theorem dX4_add_42 : decode cX4_add 42 = .ok (.invokevirtual 59, 3) := by decide +kernel
theorem dX4_add_45 : decode cX4_add 45 = .ok (.aload_n 0, 1) := by decide +kernel
theorem dX4_add_46 : decode cX4_add 46 = .ok (.getfield 24, 3) := by decide +kernel
theorem dX4_add_49 : decode cX4_add 49 = .ok (.iload_n 1, 1) := by decide +kernel
theorem dX4_add_50 : decode cX4_add 50 = .ok (.aaload, 1) := by decide +kernel
theorem dX4_add_51 : decode cX4_add 51 = .ok (.getfield 43, 3) := by decide +kernel
theorem dX4_add_54 : decode cX4_add 54 = .ok (.ireturn, 1) := by decide +kernel
theorem dX4_addMany_0 : decode cX4_addMany 0 = .ok (.aload_n 0, 1) := by decide +kernel
theorem dX4_addMany_1 : decode cX4_addMany 1 = .ok (.iload_n 1, 1) := by decide +kernel
theorem dX4_addMany_2 : decode cX4_addMany 2 = .ok (.invokestatic 39, 3) := by decide +kernel
theorem dX4_addMany_5 : decode cX4_addMany 5 = .ok (.ifCond .eq 14, 3) := by decide +kernel
theorem dX4_addMany_8 : decode cX4_addMany 8 = .ok (.iload_n 2, 1) := by decide +kernel
theorem dX4_addMany_9 : decode cX4_addMany 9 = .ok (.invokestatic 48, 3) := by decide +kernel
theorem dX4_addMany_12 : decode cX4_addMany 12 = .ok (.ifCond .eq 7, 3) := by decide +kernel
theorem dX4_addMany_15 : decode cX4_addMany 15 = .ok (.iconst 1, 1) := by decide +kernel
theorem dX4_addMany_16 : decode cX4_addMany 16 = .ok (.goto 4, 3) := by decide +kernel
theorem dX4_addMany_19 : decode cX4_addMany 19 = .ok (.iconst 0, 1) := by decide +kernel
theorem dX4_addMany_20 : decode cX4_addMany 20 = .ok (.iload_n 3, 1) := by decide +kernel
theorem dX4_addMany_21 : decode cX4_addMany 21 = .ok (.ifCond .lt 7, 3) := by decide +kernel
theorem dX4_addMany_24 : decode cX4_addMany 24 = .ok (.iconst 1, 1) := by decide +kernel
theorem dX4_addMany_25 : decode cX4_addMany 25 = .ok (.goto 4, 3) := by decide +kernel
theorem dX4_addMany_28 : decode cX4_addMany 28 = .ok (.iconst 0, 1) := by decide +kernel
theorem dX4_addMany_29 : decode cX4_addMany 29 = .ok (.aload_n 0, 1) := by decide +kernel
theorem dX4_addMany_30 : decode cX4_addMany 30 = .ok (.iload_n 1, 1) := by decide +kernel
theorem dX4_addMany_31 : decode cX4_addMany 31 = .ok (.iload_n 3, 1) := by decide +kernel
theorem dX4_addMany_32 : decode cX4_addMany 32 = .ok (.i2l, 1) := by decide +kernel
theorem dX4_addMany_33 : decode cX4_addMany 33 = .ok (.invokevirtual 51, 3) := by decide +kernel
theorem dX4_addMany_36 : decode cX4_addMany 36 = .ok (.invokevirtual 55, 3) := by decide +kernel
theorem dX4_addMany_39 : decode cX4_addMany 39 = .ok (.ifCond .ne 5, 3) := by decide +kernel
theorem dX4_addMany_42 : decode cX4_addMany 42 = .ok (.iconst 0, 1) := by decide +kernel
theorem dX4_addMany_43 : decode cX4_addMany 43 = .ok (.ireturn, 1) := by decide +kernel
theorem dX4_addMany_44 : decode cX4_addMany 44 = .ok (.iconst 0, 1) := by decide +kernel
theorem dX4_addMany_45 : decode cX4_addMany 45 = .ok (.istore 4, 2) := by decide +kernel
theorem dX4_addMany_47 : decode cX4_addMany 47 = .ok (.iload 4, 2) := by decide +kernel
theorem dX4_addMany_49 : decode cX4_addMany 49 = .ok (.iload_n 3, 1) := by decide +kernel
theorem dX4_addMany_50 : decode cX4_addMany 50 = .ok (.if_icmp .ge 19, 3) := by decide +kernel
theorem dX4_addMany_53 : decode cX4_addMany 53 = .ok (.aload_n 0, 1) := by decide +kernel
theorem dX4_addMany_54 : decode cX4_addMany 54 = .ok (.getfield 24, 3) := by decide +kernel
theorem dX4_addMany_57 : decode cX4_addMany 57 = .ok (.iload_n 1, 1) := by decide +kernel
theorem dX4_addMany_58 : decode cX4_addMany 58 = .ok (.aaload, 1) := by decide +kernel
theorem dX4_addMany_59 : decode cX4_addMany 59 = .ok (.iload_n 2, 1) := by decide +kernel
theorem dX4_addMany_60 : decode cX4_addMany 60 = .ok (.invokevirtual 59, 3) := by decide +kernel
theorem dX4_addMany_63 : decode cX4_addMany 63 = .ok (.iinc 4 1, 3) := by decide +kernel
theorem dX4_addMany_66 : decode cX4_addMany 66 = .ok (.goto (-19), 3) := by decide +kernel
theorem dX4_addMany_69 : decode cX4_addMany 69 = .ok (.aload_n 0, 1) := by decide +kernel
theorem dX4_addMany_70 : decode cX4_addMany 70 = .ok (.getfield 24, 3) := by decide +kernel
theorem dX4_addMany_73 : decode cX4_addMany 73 = .ok (.iload_n 1, 1) := by decide +kernel
theorem dX4_addMany_74 : decode cX4_addMany 74 = .ok (.aaload, 1) := by decide +kernel
theorem dX4_addMany_75 : decode cX4_addMany 75 = .ok (.getfield 43, 3) := by decide +kernel
theorem dX4_addMany_78 : decode cX4_addMany 78 = .ok (.ireturn, 1) := by decide +kernel
theorem dX4_scatter_0 : decode cX4_scatter 0 = .ok (.aload_n 0, 1) := by decide +kernel
theorem dX4_scatter_1 : decode cX4_scatter 1 = .ok (.iload_n 1, 1) := by decide +kernel
theorem dX4_scatter_2 : decode cX4_scatter 2 = .ok (.invokestatic 39, 3) := by decide +kernel
theorem dX4_scatter_5 : decode cX4_scatter 5 = .ok (.iload_n 2, 1) := by decide +kernel
theorem dX4_scatter_6 : decode cX4_scatter 6 = .ok (.i2l, 1) := by decide +kernel
theorem dX4_scatter_7 : decode cX4_scatter 7 = .ok (.lconst 0, 1) := by decide +kernel
theorem dX4_scatter_8 : decode cX4_scatter 8 = .ok (.ldc2_w 46, 3) := by decide +kernel
theorem dX4_scatter_11 : decode cX4_scatter 11 = .ok (.invokestatic 9, 3) := by decide +kernel
theorem dX4_scatter_14 : decode cX4_scatter 14 = .ok (.ifCond .eq 24, 3) := by decide +kernel
theorem dX4_scatter_17 : decode cX4_scatter 17 = .ok (.iload_n 3, 1) := by decide +kernel
theorem dX4_scatter_18 : decode cX4_scatter 18 = .ok (.i2l, 1) := by decide +kernel
theorem dX4_scatter_19 : decode cX4_scatter 19 = .ok (.lconst 1, 1) := by decide +kernel
theorem dX4_scatter_20 : decode cX4_scatter 20 = .ok (.ldc2_w 63, 3) := by decide +kernel
theorem dX4_scatter_23 : decode cX4_scatter 23 = .ok (.invokestatic 9, 3) := by decide +kernel
theorem dX4_scatter_26 : decode cX4_scatter 26 = .ok (.ifCond .eq 12, 3) := by decide +kernel
theorem dX4_scatter_29 : decode cX4_scatter 29 = .ok (.iload 4, 2) := by decide +kernel
theorem dX4_scatter_31 : decode cX4_scatter 31 = .ok (.ifCond .lt 7, 3) := by decide +kernel
theorem dX4_scatter_34 : decode cX4_scatter 34 = .ok (.iconst 1, 1) := by decide +kernel
theorem dX4_scatter_35 : decode cX4_scatter 35 = .ok (.goto 4, 3) := by decide +kernel
theorem dX4_scatter_38 : decode cX4_scatter 38 = .ok (.iconst 0, 1) := by decide +kernel
theorem dX4_scatter_39 : decode cX4_scatter 39 = .ok (.aload_n 0, 1) := by decide +kernel
theorem dX4_scatter_40 : decode cX4_scatter 40 = .ok (.iload_n 1, 1) := by decide +kernel
theorem dX4_scatter_41 : decode cX4_scatter 41 = .ok (.iload_n 2, 1) := by decide +kernel
theorem dX4_scatter_42 : decode cX4_scatter 42 = .ok (.i2l, 1) := by decide +kernel
theorem dX4_scatter_43 : decode cX4_scatter 43 = .ok (.invokevirtual 51, 3) := by decide +kernel
theorem dX4_scatter_46 : decode cX4_scatter 46 = .ok (.invokevirtual 55, 3) := by decide +kernel
theorem dX4_scatter_49 : decode cX4_scatter 49 = .ok (.ifCond .ne 5, 3) := by decide +kernel
theorem dX4_scatter_52 : decode cX4_scatter 52 = .ok (.iconst 0, 1) := by decide +kernel
theorem dX4_scatter_53 : decode cX4_scatter 53 = .ok (.ireturn, 1) := by decide +kernel
theorem dX4_scatter_54 : decode cX4_scatter 54 = .ok (.iload 4, 2) := by decide +kernel
theorem dX4_scatter_56 : decode cX4_scatter 56 = .ok (.i2l, 1) := by decide +kernel
theorem dX4_scatter_57 : decode cX4_scatter 57 = .ok (.lstore 5, 2) := by decide +kernel
theorem dX4_scatter_59 : decode cX4_scatter 59 = .ok (.iconst 0, 1) := by decide +kernel
theorem dX4_scatter_60 : decode cX4_scatter 60 = .ok (.istore 7, 2) := by decide +kernel
theorem dX4_scatter_62 : decode cX4_scatter 62 = .ok (.iload 7, 2) := by decide +kernel
theorem dX4_scatter_64 : decode cX4_scatter 64 = .ok (.iload_n 2, 1) := by decide +kernel
theorem dX4_scatter_65 : decode cX4_scatter 65 = .ok (.if_icmp .ge 44, 3) := by decide +kernel
theorem dX4_scatter_68 : decode cX4_scatter 68 = .ok (.lload 5, 2) := by decide +kernel
theorem dX4_scatter_70 : decode cX4_scatter 70 = .ok (.ldc2_w 65, 3) := by decide +kernel
theorem dX4_scatter_73 : decode cX4_scatter 73 = .ok (.lmul, 1) := by decide +kernel
theorem dX4_scatter_74 : decode cX4_scatter 74 = .ok (.ldc2_w 67, 3) := by decide +kernel
theorem dX4_scatter_77 : decode cX4_scatter 77 = .ok (.ladd, 1) := by decide +kernel
theorem dX4_scatter_78 : decode cX4_scatter 78 = .ok (.ldc2_w 69, 3) := by decide +kernel
theorem dX4_scatter_81 : decode cX4_scatter 81 = .ok (.lrem, 1) := by decide +kernel
theorem dX4_scatter_82 : decode cX4_scatter 82 = .ok (.lstore 5, 2) := by decide +kernel
theorem dX4_scatter_84 : decode cX4_scatter 84 = .ok (.aload_n 0, 1) := by decide +kernel
theorem dX4_scatter_85 : decode cX4_scatter 85 = .ok (.getfield 24, 3) := by decide +kernel
theorem dX4_scatter_88 : decode cX4_scatter 88 = .ok (.iload_n 1, 1) := by decide +kernel
theorem dX4_scatter_89 : decode cX4_scatter 89 = .ok (.aaload, 1) := by decide +kernel
theorem dX4_scatter_90 : decode cX4_scatter 90 = .ok (.lload 5, 2) := by decide +kernel
theorem dX4_scatter_92 : decode cX4_scatter 92 = .ok (.ldc2_w 71, 3) := by decide +kernel
theorem dX4_scatter_95 : decode cX4_scatter 95 = .ok (.ldiv, 1) := by decide +kernel
theorem dX4_scatter_96 : decode cX4_scatter 96 = .ok (.iload_n 3, 1) := by decide +kernel
theorem dX4_scatter_97 : decode cX4_scatter 97 = .ok (.i2l, 1) := by decide +kernel
theorem dX4_scatter_98 : decode cX4_scatter 98 = .ok (.lrem, 1) := by decide +kernel
theorem dX4_scatter_99 : decode cX4_scatter 99 = .ok (.l2i, 1) := by decide +kernel
theorem dX4_scatter_100 : decode cX4_scatter 100 = .ok (.invokevirtual 59, 3) := by decide +kernel
theorem dX4_scatter_103 : decode cX4_scatter 103 = .ok (.iinc 7 1, 3) := by decide +kernel
theorem dX4_scatter_106 : decode cX4_scatter 106 = .ok (.goto (-44), 3) := by decide +kernel
theorem dX4_scatter_109 : decode cX4_scatter 109 = .ok (.aload_n 0, 1) := by decide +kernel
theorem dX4_scatter_110 : decode cX4_scatter 110 = .ok (.getfield 24, 3) := by decide +kernel
theorem dX4_scatter_113 : decode cX4_scatter 113 = .ok (.iload_n 1, 1) := by decide +kernel
theorem dX4_scatter_114 : decode cX4_scatter 114 = .ok (.aaload, 1) := by decide +kernel
theorem dX4_scatter_115 : decode cX4_scatter 115 = .ok (.getfield 43, 3) := by decide +kernel
theorem dX4_scatter_118 : decode cX4_scatter 118 = .ok (.ireturn, 1) := by decide +kernel
theorem dX4_insert_0 : decode cX4_insert 0 = .ok (.aload_n 0, 1) := by decide +kernel
theorem dX4_insert_1 : decode cX4_insert 1 = .ok (.aload_n 0, 1) := by decide +kernel
theorem dX4_insert_2 : decode cX4_insert 2 = .ok (.iload_n 1, 1) := by decide +kernel
theorem dX4_insert_3 : decode cX4_insert 3 = .ok (.iload_n 2, 1) := by decide +kernel
theorem dX4_insert_4 : decode cX4_insert 4 = .ok (.iload_n 2, 1) := by decide +kernel
theorem dX4_insert_5 : decode cX4_insert 5 = .ok (.invokevirtual 73, 3) := by decide +kernel
theorem dX4_insert_8 : decode cX4_insert 8 = .ok (.ifCond .eq 14, 3) := by decide +kernel
theorem dX4_insert_11 : decode cX4_insert 11 = .ok (.iload_n 3, 1) := by decide +kernel
theorem dX4_insert_12 : decode cX4_insert 12 = .ok (.invokestatic 48, 3) := by decide +kernel
theorem dX4_insert_15 : decode cX4_insert 15 = .ok (.ifCond .eq 7, 3) := by decide +kernel
theorem dX4_insert_18 : decode cX4_insert 18 = .ok (.iconst 1, 1) := by decide +kernel
theorem dX4_insert_19 : decode cX4_insert 19 = .ok (.goto 4, 3) := by decide +kernel
theorem dX4_insert_22 : decode cX4_insert 22 = .ok (.iconst 0, 1) := by decide +kernel
theorem dX4_insert_23 : decode cX4_insert 23 = .ok (.aload_n 0, 1) := by decide +kernel
theorem dX4_insert_24 : decode cX4_insert 24 = .ok (.iload_n 1, 1) := by decide +kernel
theorem dX4_insert_25 : decode cX4_insert 25 = .ok (.lconst 1, 1) := by decide +kernel
theorem dX4_insert_26 : decode cX4_insert 26 = .ok (.invokevirtual 51, 3) := by decide +kernel
theorem dX4_insert_29 : decode cX4_insert 29 = .ok (.iconst 1, 1) := by decide +kernel
theorem dX4_insert_30 : decode cX4_insert 30 = .ok (.invokevirtual 55, 3) := by decide +kernel
theorem dX4_insert_33 : decode cX4_insert 33 = .ok (.ifCond .ne 5, 3) := by decide +kernel
theorem dX4_insert_36 : decode cX4_insert 36 = .ok (.iconst 0, 1) := by decide +kernel
theorem dX4_insert_37 : decode cX4_insert 37 = .ok (.ireturn, 1) := by decide +kernel
theorem dX4_insert_38 : decode cX4_insert 38 = .ok (.aload_n 0, 1) := by decide +kernel
theorem dX4_insert_39 : decode cX4_insert 39 = .ok (.getfield 24, 3) := by decide +kernel
theorem dX4_insert_42 : decode cX4_insert 42 = .ok (.iload_n 1, 1) := by decide +kernel
theorem dX4_insert_43 : decode cX4_insert 43 = .ok (.aaload, 1) := by decide +kernel
theorem dX4_insert_44 : decode cX4_insert 44 = .ok (.iload_n 2, 1) := by decide +kernel
theorem dX4_insert_45 : decode cX4_insert 45 = .ok (.iload_n 3, 1) := by decide +kernel
theorem dX4_insert_46 : decode cX4_insert 46 = .ok (.invokevirtual 77, 3) := by decide +kernel
theorem dX4_insert_49 : decode cX4_insert 49 = .ok (.aload_n 0, 1) := by decide +kernel
theorem dX4_insert_50 : decode cX4_insert 50 = .ok (.getfield 24, 3) := by decide +kernel
theorem dX4_insert_53 : decode cX4_insert 53 = .ok (.iload_n 1, 1) := by decide +kernel
theorem dX4_insert_54 : decode cX4_insert 54 = .ok (.aaload, 1) := by decide +kernel
theorem dX4_insert_55 : decode cX4_insert 55 = .ok (.getfield 43, 3) := by decide +kernel
theorem dX4_insert_58 : decode cX4_insert 58 = .ok (.ireturn, 1) := by decide +kernel
theorem dX4_set_0 : decode cX4_set 0 = .ok (.aload_n 0, 1) := by decide +kernel
theorem dX4_set_1 : decode cX4_set 1 = .ok (.aload_n 0, 1) := by decide +kernel
theorem dX4_set_2 : decode cX4_set 2 = .ok (.iload_n 1, 1) := by decide +kernel
theorem dX4_set_3 : decode cX4_set 3 = .ok (.iload_n 2, 1) := by decide +kernel
theorem dX4_set_4 : decode cX4_set 4 = .ok (.invokevirtual 81, 3) := by decide +kernel
theorem dX4_set_7 : decode cX4_set 7 = .ok (.ifCond .eq 14, 3) := by decide +kernel
theorem dX4_set_10 : decode cX4_set 10 = .ok (.iload_n 3, 1) := by decide +kernel
theorem dX4_set_11 : decode cX4_set 11 = .ok (.invokestatic 48, 3) := by decide +kernel
theorem dX4_set_14 : decode cX4_set 14 = .ok (.ifCond .eq 7, 3) := by decide +kernel
theorem dX4_set_17 : decode cX4_set 17 = .ok (.iconst 1, 1) := by decide +kernel
theorem dX4_set_18 : decode cX4_set 18 = .ok (.goto 4, 3) := by decide +kernel
theorem dX4_set_21 : decode cX4_set 21 = .ok (.iconst 0, 1) := by decide +kernel
theorem dX4_set_22 : decode cX4_set 22 = .ok (.iconst 1, 1) := by decide +kernel
theorem dX4_set_23 : decode cX4_set 23 = .ok (.iconst 1, 1) := by decide +kernel
theorem dX4_set_24 : decode cX4_set 24 = .ok (.invokevirtual 55, 3) := by decide +kernel
theorem dX4_set_27 : decode cX4_set 27 = .ok (.ifCond .ne 5, 3) := by decide +kernel
theorem dX4_set_30 : decode cX4_set 30 = .ok (.iconst 0, 1) := by decide +kernel
theorem dX4_set_31 : decode cX4_set 31 = .ok (.ireturn, 1) := by decide +kernel
theorem dX4_set_32 : decode cX4_set 32 = .ok (.aload_n 0, 1) := by decide +kernel
theorem dX4_set_33 : decode cX4_set 33 = .ok (.getfield 24, 3) := by decide +kernel
theorem dX4_set_36 : decode cX4_set 36 = .ok (.iload_n 1, 1) := by decide +kernel
theorem dX4_set_37 : decode cX4_set 37 = .ok (.aaload, 1) := by decide +kernel
theorem dX4_set_38 : decode cX4_set 38 = .ok (.iload_n 2, 1) := by decide +kernel
theorem dX4_set_39 : decode cX4_set 39 = .ok (.invokevirtual 85, 3) := by decide +kernel
theorem dX4_set_42 : decode cX4_set 42 = .ok (.istore 4, 2) := by decide +kernel
theorem dX4_set_44 : decode cX4_set 44 = .ok (.aload_n 0, 1) := by decide +kernel
theorem dX4_set_45 : decode cX4_set 45 = .ok (.getfield 24, 3) := by decide +kernel
theorem dX4_set_48 : decode cX4_set 48 = .ok (.iload_n 1, 1) := by decide +kernel
theorem dX4_set_49 : decode cX4_set 49 = .ok (.aaload, 1) := by decide +kernel
theorem dX4_set_50 : decode cX4_set 50 = .ok (.getfield 89, 3) := by decide +kernel
theorem dX4_set_53 : decode cX4_set 53 = .ok (.iload_n 2, 1) := by decide +kernel
theorem dX4_set_54 : decode cX4_set 54 = .ok (.iload_n 3, 1) := by decide +kernel
theorem dX4_set_55 : decode cX4_set 55 = .ok (.iastore, 1) := by decide +kernel
theorem dX4_set_56 : decode cX4_set 56 = .ok (.iload 4, 2) := by decide +kernel
theorem dX4_set_58 : decode cX4_set 58 = .ok (.ireturn, 1) := by decide +kernel
theorem dX4_remove_0 : decode cX4_remove 0 = .ok (.aload_n 0, 1) := by decide +kernel
theorem dX4_remove_1 : decode cX4_remove 1 = .ok (.aload_n 0, 1) := by decide +kernel
theorem dX4_remove_2 : decode cX4_remove 2 = .ok (.iload_n 1, 1) := by decide +kernel
theorem dX4_remove_3 : decode cX4_remove 3 = .ok (.iload_n 2, 1) := by decide +kernel
theorem dX4_remove_4 : decode cX4_remove 4 = .ok (.invokevirtual 81, 3) := by decide +kernel
theorem dX4_remove_7 : decode cX4_remove 7 = .ok (.iconst 1, 1) := by decide +kernel
theorem dX4_remove_8 : decode cX4_remove 8 = .ok (.iconst 1, 1) := by decide +kernel
theorem dX4_remove_9 : decode cX4_remove 9 = .ok (.invokevirtual 55, 3) := by decide +kernel
theorem dX4_remove_12 : decode cX4_remove 12 = .ok (.ifCond .eq 16, 3) := by decide +kernel
theorem dX4_remove_15 : decode cX4_remove 15 = .ok (.aload_n 0, 1) := by decide +kernel
theorem dX4_remove_16 : decode cX4_remove 16 = .ok (.getfield 24, 3) := by decide +kernel
theorem dX4_remove_19 : decode cX4_remove 19 = .ok (.iload_n 1, 1) := by decide +kernel
theorem dX4_remove_20 : decode cX4_remove 20 = .ok (.aaload, 1) := by decide +kernel
theorem dX4_remove_21 : decode cX4_remove 21 = .ok (.iload_n 2, 1) := by decide +kernel
theorem dX4_remove_22 : decode cX4_remove 22 = .ok (.invokevirtual 92, 3) := by decide +kernel
theorem dX4_remove_25 : decode cX4_remove 25 = .ok (.goto 4, 3) := by decide +kernel
theorem dX4_remove_28 : decode cX4_remove 28 = .ok (.iconst 0, 1) := by decide +kernel
theorem dX4_remove_29 : decode cX4_remove 29 = .ok (.ireturn, 1) := by decide +kernel
theorem dX4_cut_0 : decode cX4_cut 0 = .ok (.aload_n 0, 1) := by decide +kernel
theorem dX4_cut_1 : decode cX4_cut 1 = .ok (.aload_n 0, 1) := by decide +kernel
theorem dX4_cut_2 : decode cX4_cut 2 = .ok (.iload_n 1, 1) := by decide +kernel
theorem dX4_cut_3 : decode cX4_cut 3 = .ok (.iload_n 2, 1) := by decide +kernel
theorem dX4_cut_4 : decode cX4_cut 4 = .ok (.iload_n 3, 1) := by decide +kernel
theorem dX4_cut_5 : decode cX4_cut 5 = .ok (.invokevirtual 73, 3) := by decide +kernel
theorem dX4_cut_8 : decode cX4_cut 8 = .ok (.iconst 1, 1) := by decide +kernel
theorem dX4_cut_9 : decode cX4_cut 9 = .ok (.iconst 1, 1) := by decide +kernel
theorem dX4_cut_10 : decode cX4_cut 10 = .ok (.invokevirtual 55, 3) := by decide +kernel
theorem dX4_cut_13 : decode cX4_cut 13 = .ok (.ifCond .ne 5, 3) := by decide +kernel
theorem dX4_cut_16 : decode cX4_cut 16 = .ok (.iconst 0, 1) := by decide +kernel
theorem dX4_cut_17 : decode cX4_cut 17 = .ok (.ireturn, 1) := by decide +kernel
theorem dX4_cut_18 : decode cX4_cut 18 = .ok (.iload_n 2, 1) := by decide +kernel
theorem dX4_cut_19 : decode cX4_cut 19 = .ok (.istore 4, 2) := by decide +kernel
theorem dX4_cut_21 : decode cX4_cut 21 = .ok (.iload 4, 2) := by decide +kernel
theorem dX4_cut_23 : decode cX4_cut 23 = .ok (.iload_n 3, 1) := by decide +kernel
theorem dX4_cut_24 : decode cX4_cut 24 = .ok (.if_icmp .ge 21, 3) := by decide +kernel
theorem dX4_cut_27 : decode cX4_cut 27 = .ok (.aload_n 0, 1) := by decide +kernel
theorem dX4_cut_28 : decode cX4_cut 28 = .ok (.getfield 24, 3) := by decide +kernel
theorem dX4_cut_31 : decode cX4_cut 31 = .ok (.iload_n 1, 1) := by decide +kernel
theorem dX4_cut_32 : decode cX4_cut 32 = .ok (.aaload, 1) := by decide +kernel
theorem dX4_cut_33 : decode cX4_cut 33 = .ok (.iload_n 2, 1) := by decide +kernel
theorem dX4_cut_34 : decode cX4_cut 34 = .ok (.invokevirtual 92, 3) := by decide +kernel
theorem dX4_cut_37 : decode cX4_cut 37 = .ok (.istore 5, 2) := by decide +kernel
theorem dX4_cut_39 : decode cX4_cut 39 = .ok (.iinc 4 1, 3) := by decide +kernel
theorem dX4_cut_42 : decode cX4_cut 42 = .ok (.goto (-21), 3) := by decide +kernel
theorem dX4_cut_45 : decode cX4_cut 45 = .ok (.aload_n 0, 1) := by decide +kernel
theorem dX4_cut_46 : decode cX4_cut 46 = .ok (.getfield 24, 3) := by decide +kernel
theorem dX4_cut_49 : decode cX4_cut 49 = .ok (.iload_n 1, 1) := by decide +kernel
theorem dX4_cut_50 : decode cX4_cut 50 = .ok (.aaload, 1) := by decide +kernel
theorem dX4_cut_51 : decode cX4_cut 51 = .ok (.getfield 43, 3) := by decide +kernel
theorem dX4_cut_54 : decode cX4_cut 54 = .ok (.ireturn, 1) := by decide +kernel
theorem dX4_size_0 : decode cX4_size 0 = .ok (.aload_n 0, 1) := by decide +kernel
theorem dX4_size_1 : decode cX4_size 1 = .ok (.iload_n 1, 1) := by decide +kernel
theorem dX4_size_2 : decode cX4_size 2 = .ok (.invokestatic 39, 3) := by decide +kernel
theorem dX4_size_5 : decode cX4_size 5 = .ok (.iconst 1, 1) := by decide +kernel
theorem dX4_size_6 : decode cX4_size 6 = .ok (.iconst 1, 1) := by decide +kernel
theorem dX4_size_7 : decode cX4_size 7 = .ok (.invokevirtual 55, 3) := by decide +kernel
theorem dX4_size_10 : decode cX4_size 10 = .ok (.ifCond .eq 15, 3) := by decide +kernel
theorem dX4_size_13 : decode cX4_size 13 = .ok (.aload_n 0, 1) := by decide +kernel
theorem dX4_size_14 : decode cX4_size 14 = .ok (.getfield 24, 3) := by decide +kernel
theorem dX4_size_17 : decode cX4_size 17 = .ok (.iload_n 1, 1) := by decide +kernel
theorem dX4_size_18 : decode cX4_size 18 = .ok (.aaload, 1) := by decide +kernel
theorem dX4_size_19 : decode cX4_size 19 = .ok (.getfield 43, 3) := by decide +kernel
theorem dX4_size_22 : decode cX4_size 22 = .ok (.goto 4, 3) := by decide +kernel
theorem dX4_size_25 : decode cX4_size 25 = .ok (.iconst 0, 1) := by decide +kernel
theorem dX4_size_26 : decode cX4_size 26 = .ok (.ireturn, 1) := by decide +kernel
theorem dX4_at_0 : decode cX4_at 0 = .ok (.aload_n 0, 1) := by decide +kernel
theorem dX4_at_1 : decode cX4_at 1 = .ok (.aload_n 0, 1) := by decide +kernel
theorem dX4_at_2 : decode cX4_at 2 = .ok (.iload_n 1, 1) := by decide +kernel
theorem dX4_at_3 : decode cX4_at 3 = .ok (.iload_n 2, 1) := by decide +kernel
theorem dX4_at_4 : decode cX4_at 4 = .ok (.invokevirtual 81, 3) := by decide +kernel
theorem dX4_at_7 : decode cX4_at 7 = .ok (.iconst 1, 1) := by decide +kernel
theorem dX4_at_8 : decode cX4_at 8 = .ok (.iconst 1, 1) := by decide +kernel
theorem dX4_at_9 : decode cX4_at 9 = .ok (.invokevirtual 55, 3) := by decide +kernel
theorem dX4_at_12 : decode cX4_at 12 = .ok (.ifCond .eq 16, 3) := by decide +kernel
theorem dX4_at_15 : decode cX4_at 15 = .ok (.aload_n 0, 1) := by decide +kernel
theorem dX4_at_16 : decode cX4_at 16 = .ok (.getfield 24, 3) := by decide +kernel
theorem dX4_at_19 : decode cX4_at 19 = .ok (.iload_n 1, 1) := by decide +kernel
theorem dX4_at_20 : decode cX4_at 20 = .ok (.aaload, 1) := by decide +kernel
theorem dX4_at_21 : decode cX4_at 21 = .ok (.iload_n 2, 1) := by decide +kernel
theorem dX4_at_22 : decode cX4_at 22 = .ok (.invokevirtual 85, 3) := by decide +kernel
theorem dX4_at_25 : decode cX4_at 25 = .ok (.goto 4, 3) := by decide +kernel
theorem dX4_at_28 : decode cX4_at 28 = .ok (.iconst 0, 1) := by decide +kernel
theorem dX4_at_29 : decode cX4_at 29 = .ok (.ireturn, 1) := by decide +kernel
theorem dX4_digest_0 : decode cX4_digest 0 = .ok (.aload_n 0, 1) := by decide +kernel
theorem dX4_digest_1 : decode cX4_digest 1 = .ok (.iload_n 1, 1) := by decide +kernel
theorem dX4_digest_2 : decode cX4_digest 2 = .ok (.invokestatic 39, 3) := by decide +kernel
theorem dX4_digest_5 : decode cX4_digest 5 = .ok (.iconst 1, 1) := by decide +kernel
theorem dX4_digest_6 : decode cX4_digest 6 = .ok (.iconst 1, 1) := by decide +kernel
theorem dX4_digest_7 : decode cX4_digest 7 = .ok (.invokevirtual 55, 3) := by decide +kernel
theorem dX4_digest_10 : decode cX4_digest 10 = .ok (.ifCond .ne 5, 3) := by decide +kernel
theorem dX4_digest_13 : decode cX4_digest 13 = .ok (.iconst 0, 1) := by decide +kernel
theorem dX4_digest_14 : decode cX4_digest 14 = .ok (.ireturn, 1) := by decide +kernel
theorem dX4_digest_15 : decode cX4_digest 15 = .ok (.bipush 7, 2) := by decide +kernel
theorem dX4_digest_17 : decode cX4_digest 17 = .ok (.istore_n 2, 1) := by decide +kernel
theorem dX4_digest_18 : decode cX4_digest 18 = .ok (.iconst 0, 1) := by decide +kernel
theorem dX4_digest_19 : decode cX4_digest 19 = .ok (.istore_n 3, 1) := by decide +kernel
theorem dX4_digest_20 : decode cX4_digest 20 = .ok (.iload_n 3, 1) := by decide +kernel
theorem dX4_digest_21 : decode cX4_digest 21 = .ok (.aload_n 0, 1) := by decide +kernel
theorem dX4_digest_22 : decode cX4_digest 22 = .ok (.getfield 24, 3) := by decide +kernel
theorem dX4_digest_25 : decode cX4_digest 25 = .ok (.iload_n 1, 1) := by decide +kernel
theorem dX4_digest_26 : decode cX4_digest 26 = .ok (.aaload, 1) := by decide +kernel
theorem dX4_digest_27 : decode cX4_digest 27 = .ok (.getfield 43, 3) := by decide +kernel
theorem dX4_digest_30 : decode cX4_digest 30 = .ok (.if_icmp .ge 25, 3) := by decide +kernel
theorem dX4_digest_33 : decode cX4_digest 33 = .ok (.bipush 31, 2) := by decide +kernel
theorem dX4_digest_35 : decode cX4_digest 35 = .ok (.iload_n 2, 1) := by decide +kernel
theorem dX4_digest_36 : decode cX4_digest 36 = .ok (.imul, 1) := by decide +kernel
theorem dX4_digest_37 : decode cX4_digest 37 = .ok (.aload_n 0, 1) := by decide +kernel
theorem dX4_digest_38 : decode cX4_digest 38 = .ok (.getfield 24, 3) := by decide +kernel
theorem dX4_digest_41 : decode cX4_digest 41 = .ok (.iload_n 1, 1) := by decide +kernel
theorem dX4_digest_42 : decode cX4_digest 42 = .ok (.aaload, 1) := by decide +kernel
theorem dX4_digest_43 : decode cX4_digest 43 = .ok (.iload_n 3, 1) := by decide +kernel
theorem dX4_digest_44 : decode cX4_digest 44 = .ok (.invokevirtual 85, 3) := by decide +kernel
theorem dX4_digest_47 : decode cX4_digest 47 = .ok (.iadd, 1) := by decide +kernel
theorem dX4_digest_48 : decode cX4_digest 48 = .ok (.istore_n 2, 1) := by decide +kernel
theorem dX4_digest_49 : decode cX4_digest 49 = .ok (.iinc 3 1, 3) := by decide +kernel
theorem dX4_digest_52 : decode cX4_digest 52 = .ok (.goto (-32), 3) := by decide +kernel
theorem dX4_digest_55 : decode cX4_digest 55 = .ok (.iload_n 2, 1) := by decide +kernel
theorem dX4_digest_56 : decode cX4_digest 56 = .ok (.ireturn, 1) := by decide +kernel
theorem dX4_setRank_0 : decode cX4_setRank 0 = .ok (.aload_n 0, 1) := by decide +kernel
theorem dX4_setRank_1 : decode cX4_setRank 1 = .ok (.iload_n 1, 1) := by decide +kernel
theorem dX4_setRank_2 : decode cX4_setRank 2 = .ok (.invokestatic 48, 3) := by decide +kernel
theorem dX4_setRank_5 : decode cX4_setRank 5 = .ok (.iload_n 2, 1) := by decide +kernel
theorem dX4_setRank_6 : decode cX4_setRank 6 = .ok (.i2l, 1) := by decide +kernel
theorem dX4_setRank_7 : decode cX4_setRank 7 = .ok (.ldc2_w 95, 3) := by decide +kernel
theorem dX4_setRank_10 : decode cX4_setRank 10 = .ok (.ldc2_w 97, 3) := by decide +kernel
theorem dX4_setRank_13 : decode cX4_setRank 13 = .ok (.invokestatic 9, 3) := by decide +kernel
theorem dX4_setRank_16 : decode cX4_setRank 16 = .ok (.iconst 1, 1) := by decide +kernel
theorem dX4_setRank_17 : decode cX4_setRank 17 = .ok (.invokevirtual 55, 3) := by decide +kernel
theorem dX4_setRank_20 : decode cX4_setRank 20 = .ok (.ifCond .ne 5, 3) := by decide +kernel
theorem dX4_setRank_23 : decode cX4_setRank 23 = .ok (.iconst 0, 1) := by decide +kernel
theorem dX4_setRank_24 : decode cX4_setRank 24 = .ok (.ireturn, 1) := by decide +kernel
theorem dX4_setRank_25 : decode cX4_setRank 25 = .ok (.aload_n 0, 1) := by decide +kernel
theorem dX4_setRank_26 : decode cX4_setRank 26 = .ok (.getfield 35, 3) := by decide +kernel
theorem dX4_setRank_29 : decode cX4_setRank 29 = .ok (.iload_n 1, 1) := by decide +kernel
theorem dX4_setRank_30 : decode cX4_setRank 30 = .ok (.iaload, 1) := by decide +kernel
theorem dX4_setRank_31 : decode cX4_setRank 31 = .ok (.istore_n 3, 1) := by decide +kernel
theorem dX4_setRank_32 : decode cX4_setRank 32 = .ok (.aload_n 0, 1) := by decide +kernel
theorem dX4_setRank_33 : decode cX4_setRank 33 = .ok (.getfield 35, 3) := by decide +kernel
theorem dX4_setRank_36 : decode cX4_setRank 36 = .ok (.iload_n 1, 1) := by decide +kernel
theorem dX4_setRank_37 : decode cX4_setRank 37 = .ok (.iload_n 2, 1) := by decide +kernel
theorem dX4_setRank_38 : decode cX4_setRank 38 = .ok (.iastore, 1) := by decide +kernel
theorem dX4_setRank_39 : decode cX4_setRank 39 = .ok (.iload_n 3, 1) := by decide +kernel
theorem dX4_setRank_40 : decode cX4_setRank 40 = .ok (.ireturn, 1) := by decide +kernel
theorem dX4_say_0 : decode cX4_say 0 = .ok (.iload_n 1, 1) := by decide +kernel
theorem dX4_say_1 : decode cX4_say 1 = .ok (.invokestatic 99, 3) := by decide +kernel
theorem dX4_say_4 : decode cX4_say 4 = .ok (.istore_n 3, 1) := by decide +kernel
theorem dX4_say_5 : decode cX4_say 5 = .ok (.aload_n 0, 1) := by decide +kernel
theorem dX4_say_6 : decode cX4_say 6 = .ok (.iload_n 3, 1) := by decide +kernel
theorem dX4_say_7 : decode cX4_say 7 = .ok (.ifCond .eq 14, 3) := by decide +kernel
theorem dX4_say_10 : decode cX4_say 10 = .ok (.iload_n 2, 1) := by decide +kernel
theorem dX4_say_11 : decode cX4_say 11 = .ok (.invokestatic 48, 3) := by decide +kernel
theorem dX4_say_14 : decode cX4_say 14 = .ok (.ifCond .eq 7, 3) := by decide +kernel
theorem dX4_say_17 : decode cX4_say 17 = .ok (.iconst 1, 1) := by decide +kernel
theorem dX4_say_18 : decode cX4_say 18 = .ok (.goto 4, 3) := by decide +kernel
theorem dX4_say_21 : decode cX4_say 21 = .ok (.iconst 0, 1) := by decide +kernel
theorem dX4_say_22 : decode cX4_say 22 = .ok (.iload_n 3, 1) := by decide +kernel
theorem dX4_say_23 : decode cX4_say 23 = .ok (.ifCond .eq 21, 3) := by decide +kernel
theorem dX4_say_26 : decode cX4_say 26 = .ok (.aload_n 0, 1) := by decide +kernel
theorem dX4_say_27 : decode cX4_say 27 = .ok (.getfield 28, 3) := by decide +kernel
theorem dX4_say_30 : decode cX4_say 30 = .ok (.iload_n 1, 1) := by decide +kernel
theorem dX4_say_31 : decode cX4_say 31 = .ok (.aaload, 1) := by decide +kernel
theorem dX4_say_32 : decode cX4_say 32 = .ok (.getfield 43, 3) := by decide +kernel
theorem dX4_say_35 : decode cX4_say 35 = .ok (.bipush 12, 2) := by decide +kernel
theorem dX4_say_37 : decode cX4_say 37 = .ok (.if_icmp .ge 7, 3) := by decide +kernel
theorem dX4_say_40 : decode cX4_say 40 = .ok (.iconst 1, 1) := by decide +kernel
theorem dX4_say_41 : decode cX4_say 41 = .ok (.goto 4, 3) := by decide +kernel
theorem dX4_say_44 : decode cX4_say 44 = .ok (.iconst 0, 1) := by decide +kernel
theorem dX4_say_45 : decode cX4_say 45 = .ok (.iconst 1, 1) := by decide +kernel
theorem dX4_say_46 : decode cX4_say 46 = .ok (.invokevirtual 55, 3) := by decide +kernel
theorem dX4_say_49 : decode cX4_say 49 = .ok (.ifCond .ne 5, 3) := by decide +kernel
theorem dX4_say_52 : decode cX4_say 52 = .ok (.iconst 0, 1) := by decide +kernel
theorem dX4_say_53 : decode cX4_say 53 = .ok (.ireturn, 1) := by decide +kernel
theorem dX4_say_54 : decode cX4_say 54 = .ok (.aload_n 0, 1) := by decide +kernel
theorem dX4_say_55 : decode cX4_say 55 = .ok (.getfield 28, 3) := by decide +kernel
theorem dX4_say_58 : decode cX4_say 58 = .ok (.iload_n 1, 1) := by decide +kernel
theorem dX4_say_59 : decode cX4_say 59 = .ok (.aaload, 1) := by decide +kernel
theorem dX4_say_60 : decode cX4_say 60 = .ok (.iload_n 2, 1) := by decide +kernel
theorem dX4_say_61 : decode cX4_say 61 = .ok (.invokevirtual 59, 3) := by decide +kernel
theorem dX4_say_64 : decode cX4_say 64 = .ok (.aload_n 0, 1) := by decide +kernel
theorem dX4_say_65 : decode cX4_say 65 = .ok (.getfield 28, 3) := by decide +kernel
theorem dX4_say_68 : decode cX4_say 68 = .ok (.iload_n 1, 1) := by decide +kernel
theorem dX4_say_69 : decode cX4_say 69 = .ok (.aaload, 1) := by decide +kernel
theorem dX4_say_70 : decode cX4_say 70 = .ok (.getfield 43, 3) := by decide +kernel
theorem dX4_say_73 : decode cX4_say 73 = .ok (.ireturn, 1) := by decide +kernel
theorem dX4_quote_0 : decode cX4_quote 0 = .ok (.aload_n 0, 1) := by decide +kernel
theorem dX4_quote_1 : decode cX4_quote 1 = .ok (.iload_n 1, 1) := by decide +kernel
theorem dX4_quote_2 : decode cX4_quote 2 = .ok (.invokestatic 99, 3) := by decide +kernel
theorem dX4_quote_5 : decode cX4_quote 5 = .ok (.ifCond .eq 18, 3) := by decide +kernel
theorem dX4_quote_8 : decode cX4_quote 8 = .ok (.aload_n 0, 1) := by decide +kernel
theorem dX4_quote_9 : decode cX4_quote 9 = .ok (.iload_n 2, 1) := by decide +kernel
theorem dX4_quote_10 : decode cX4_quote 10 = .ok (.iload_n 3, 1) := by decide +kernel
theorem dX4_quote_11 : decode cX4_quote 11 = .ok (.iload 4, 2) := by decide +kernel
theorem dX4_quote_13 : decode cX4_quote 13 = .ok (.invokevirtual 73, 3) := by decide +kernel
theorem dX4_quote_16 : decode cX4_quote 16 = .ok (.ifCond .eq 7, 3) := by decide +kernel
theorem dX4_quote_19 : decode cX4_quote 19 = .ok (.iconst 1, 1) := by decide +kernel
theorem dX4_quote_20 : decode cX4_quote 20 = .ok (.goto 4, 3) := by decide +kernel
theorem dX4_quote_23 : decode cX4_quote 23 = .ok (.iconst 0, 1) := by decide +kernel
theorem dX4_quote_24 : decode cX4_quote 24 = .ok (.iload 4, 2) := by decide +kernel
theorem dX4_quote_26 : decode cX4_quote 26 = .ok (.i2l, 1) := by decide +kernel
theorem dX4_quote_27 : decode cX4_quote 27 = .ok (.iload_n 3, 1) := by decide +kernel
theorem dX4_quote_28 : decode cX4_quote 28 = .ok (.i2l, 1) := by decide +kernel
theorem dX4_quote_29 : decode cX4_quote 29 = .ok (.lsub, 1) := by decide +kernel
theorem dX4_quote_30 : decode cX4_quote 30 = .ok (.ldc2_w 102, 3) := by decide +kernel
theorem dX4_quote_33 : decode cX4_quote 33 = .ok (.lcmp, 1) := by decide +kernel
theorem dX4_quote_34 : decode cX4_quote 34 = .ok (.ifCond .gt 7, 3) := by decide +kernel
theorem dX4_quote_37 : decode cX4_quote 37 = .ok (.iconst 1, 1) := by decide +kernel
theorem dX4_quote_38 : decode cX4_quote 38 = .ok (.goto 4, 3) := by decide +kernel
theorem dX4_quote_41 : decode cX4_quote 41 = .ok (.iconst 0, 1) := by decide +kernel
theorem dX4_quote_42 : decode cX4_quote 42 = .ok (.iconst 1, 1) := by decide +kernel
theorem dX4_quote_43 : decode cX4_quote 43 = .ok (.invokevirtual 55, 3) := by decide +kernel
theorem dX4_quote_46 : decode cX4_quote 46 = .ok (.ifCond .ne 5, 3) := by decide +kernel
theorem dX4_quote_49 : decode cX4_quote 49 = .ok (.iconst 0, 1) := by decide +kernel
theorem dX4_quote_50 : decode cX4_quote 50 = .ok (.ireturn, 1) := by decide +kernel
theorem dX4_quote_51 : decode cX4_quote 51 = .ok (.aload_n 0, 1) := by decide +kernel
theorem dX4_quote_52 : decode cX4_quote 52 = .ok (.getfield 28, 3) := by decide +kernel
theorem dX4_quote_55 : decode cX4_quote 55 = .ok (.iload_n 1, 1) := by decide +kernel
theorem dX4_quote_56 : decode cX4_quote 56 = .ok (.aaload, 1) := by decide +kernel
theorem dX4_quote_57 : decode cX4_quote 57 = .ok (.iconst 0, 1) := by decide +kernel
theorem dX4_quote_58 : decode cX4_quote 58 = .ok (.putfield 43, 3) := by decide +kernel
theorem dX4_quote_61 : decode cX4_quote 61 = .ok (.iload_n 3, 1) := by decide +kernel
theorem dX4_quote_62 : decode cX4_quote 62 = .ok (.istore 5, 2) := by decide +kernel
theorem dX4_quote_64 : decode cX4_quote 64 = .ok (.iload 5, 2) := by decide +kernel
theorem dX4_quote_66 : decode cX4_quote 66 = .ok (.iload 4, 2) := by decide +kernel
theorem dX4_quote_68 : decode cX4_quote 68 = .ok (.if_icmp .ge 29, 3) := by decide +kernel
theorem dX4_quote_71 : decode cX4_quote 71 = .ok (.aload_n 0, 1) := by decide +kernel
theorem dX4_quote_72 : decode cX4_quote 72 = .ok (.getfield 28, 3) := by decide +kernel
theorem dX4_quote_75 : decode cX4_quote 75 = .ok (.iload_n 1, 1) := by decide +kernel
theorem dX4_quote_76 : decode cX4_quote 76 = .ok (.aaload, 1) := by decide +kernel
theorem dX4_quote_77 : decode cX4_quote 77 = .ok (.aload_n 0, 1) := by decide +kernel
theorem dX4_quote_78 : decode cX4_quote 78 = .ok (.getfield 24, 3) := by decide +kernel
theorem dX4_quote_81 : decode cX4_quote 81 = .ok (.iload_n 2, 1) := by decide +kernel
theorem dX4_quote_82 : decode cX4_quote 82 = .ok (.aaload, 1) := by decide +kernel
theorem dX4_quote_83 : decode cX4_quote 83 = .ok (.iload 5, 2) := by decide +kernel
theorem dX4_quote_85 : decode cX4_quote 85 = .ok (.invokevirtual 85, 3) := by decide +kernel
theorem dX4_quote_88 : decode cX4_quote 88 = .ok (.invokevirtual 59, 3) := by decide +kernel
theorem dX4_quote_91 : decode cX4_quote 91 = .ok (.iinc 5 1, 3) := by decide +kernel
theorem dX4_quote_94 : decode cX4_quote 94 = .ok (.goto (-30), 3) := by decide +kernel
theorem dX4_quote_97 : decode cX4_quote 97 = .ok (.aload_n 0, 1) := by decide +kernel
theorem dX4_quote_98 : decode cX4_quote 98 = .ok (.getfield 28, 3) := by decide +kernel
theorem dX4_quote_101 : decode cX4_quote 101 = .ok (.iload_n 1, 1) := by decide +kernel
theorem dX4_quote_102 : decode cX4_quote 102 = .ok (.aaload, 1) := by decide +kernel
theorem dX4_quote_103 : decode cX4_quote 103 = .ok (.getfield 43, 3) := by decide +kernel
theorem dX4_quote_106 : decode cX4_quote 106 = .ok (.ireturn, 1) := by decide +kernel
theorem dX4_hush_0 : decode cX4_hush 0 = .ok (.aload_n 0, 1) := by decide +kernel
theorem dX4_hush_1 : decode cX4_hush 1 = .ok (.iload_n 1, 1) := by decide +kernel
theorem dX4_hush_2 : decode cX4_hush 2 = .ok (.invokestatic 99, 3) := by decide +kernel
theorem dX4_hush_5 : decode cX4_hush 5 = .ok (.iconst 1, 1) := by decide +kernel
theorem dX4_hush_6 : decode cX4_hush 6 = .ok (.iconst 1, 1) := by decide +kernel
theorem dX4_hush_7 : decode cX4_hush 7 = .ok (.invokevirtual 55, 3) := by decide +kernel
theorem dX4_hush_10 : decode cX4_hush 10 = .ok (.ifCond .ne 5, 3) := by decide +kernel
theorem dX4_hush_13 : decode cX4_hush 13 = .ok (.iconst 0, 1) := by decide +kernel
theorem dX4_hush_14 : decode cX4_hush 14 = .ok (.ireturn, 1) := by decide +kernel
theorem dX4_hush_15 : decode cX4_hush 15 = .ok (.aload_n 0, 1) := by decide +kernel
theorem dX4_hush_16 : decode cX4_hush 16 = .ok (.getfield 28, 3) := by decide +kernel
theorem dX4_hush_19 : decode cX4_hush 19 = .ok (.iload_n 1, 1) := by decide +kernel
theorem dX4_hush_20 : decode cX4_hush 20 = .ok (.aaload, 1) := by decide +kernel
theorem dX4_hush_21 : decode cX4_hush 21 = .ok (.getfield 43, 3) := by decide +kernel
theorem dX4_hush_24 : decode cX4_hush 24 = .ok (.istore_n 2, 1) := by decide +kernel
theorem dX4_hush_25 : decode cX4_hush 25 = .ok (.aload_n 0, 1) := by decide +kernel
theorem dX4_hush_26 : decode cX4_hush 26 = .ok (.getfield 28, 3) := by decide +kernel
theorem dX4_hush_29 : decode cX4_hush 29 = .ok (.iload_n 1, 1) := by decide +kernel
theorem dX4_hush_30 : decode cX4_hush 30 = .ok (.aaload, 1) := by decide +kernel
theorem dX4_hush_31 : decode cX4_hush 31 = .ok (.iconst 0, 1) := by decide +kernel
theorem dX4_hush_32 : decode cX4_hush 32 = .ok (.putfield 43, 3) := by decide +kernel
theorem dX4_hush_35 : decode cX4_hush 35 = .ok (.iload_n 2, 1) := by decide +kernel
theorem dX4_hush_36 : decode cX4_hush 36 = .ok (.ireturn, 1) := by decide +kernel
theorem dX4_wordOf_0 : decode cX4_wordOf 0 = .ok (.iload_n 1, 1) := by decide +kernel
theorem dX4_wordOf_1 : decode cX4_wordOf 1 = .ok (.invokestatic 99, 3) := by decide +kernel
theorem dX4_wordOf_4 : decode cX4_wordOf 4 = .ok (.ifCond .eq 28, 3) := by decide +kernel
theorem dX4_wordOf_7 : decode cX4_wordOf 7 = .ok (.iload_n 2, 1) := by decide +kernel
theorem dX4_wordOf_8 : decode cX4_wordOf 8 = .ok (.i2l, 1) := by decide +kernel
theorem dX4_wordOf_9 : decode cX4_wordOf 9 = .ok (.lconst 0, 1) := by decide +kernel
theorem dX4_wordOf_10 : decode cX4_wordOf 10 = .ok (.aload_n 0, 1) := by decide +kernel
theorem dX4_wordOf_11 : decode cX4_wordOf 11 = .ok (.getfield 28, 3) := by decide +kernel
theorem dX4_wordOf_14 : decode cX4_wordOf 14 = .ok (.iload_n 1, 1) := by decide +kernel
theorem dX4_wordOf_15 : decode cX4_wordOf 15 = .ok (.aaload, 1) := by decide +kernel
theorem dX4_wordOf_16 : decode cX4_wordOf 16 = .ok (.getfield 43, 3) := by decide +kernel
theorem dX4_wordOf_19 : decode cX4_wordOf 19 = .ok (.iconst 1, 1) := by decide +kernel
theorem dX4_wordOf_20 : decode cX4_wordOf 20 = .ok (.isub, 1) := by decide +kernel
theorem dX4_wordOf_21 : decode cX4_wordOf 21 = .ok (.i2l, 1) := by decide +kernel
theorem dX4_wordOf_22 : decode cX4_wordOf 22 = .ok (.invokestatic 9, 3) := by decide +kernel
theorem dX4_wordOf_25 : decode cX4_wordOf 25 = .ok (.ifCond .eq 7, 3) := by decide +kernel
theorem dX4_wordOf_28 : decode cX4_wordOf 28 = .ok (.iconst 1, 1) := by decide +kernel
theorem dX4_wordOf_29 : decode cX4_wordOf 29 = .ok (.goto 4, 3) := by decide +kernel
theorem dX4_wordOf_32 : decode cX4_wordOf 32 = .ok (.iconst 0, 1) := by decide +kernel
theorem dX4_wordOf_33 : decode cX4_wordOf 33 = .ok (.istore_n 3, 1) := by decide +kernel
theorem dX4_wordOf_34 : decode cX4_wordOf 34 = .ok (.aload_n 0, 1) := by decide +kernel
theorem dX4_wordOf_35 : decode cX4_wordOf 35 = .ok (.iload_n 3, 1) := by decide +kernel
theorem dX4_wordOf_36 : decode cX4_wordOf 36 = .ok (.iconst 1, 1) := by decide +kernel
theorem dX4_wordOf_37 : decode cX4_wordOf 37 = .ok (.iconst 1, 1) := by decide +kernel
theorem dX4_wordOf_38 : decode cX4_wordOf 38 = .ok (.invokevirtual 55, 3) := by decide +kernel
theorem dX4_wordOf_41 : decode cX4_wordOf 41 = .ok (.ifCond .eq 16, 3) := by decide +kernel
theorem dX4_wordOf_44 : decode cX4_wordOf 44 = .ok (.aload_n 0, 1) := by decide +kernel
theorem dX4_wordOf_45 : decode cX4_wordOf 45 = .ok (.getfield 28, 3) := by decide +kernel
theorem dX4_wordOf_48 : decode cX4_wordOf 48 = .ok (.iload_n 1, 1) := by decide +kernel
theorem dX4_wordOf_49 : decode cX4_wordOf 49 = .ok (.aaload, 1) := by decide +kernel
theorem dX4_wordOf_50 : decode cX4_wordOf 50 = .ok (.iload_n 2, 1) := by decide +kernel
theorem dX4_wordOf_51 : decode cX4_wordOf 51 = .ok (.invokevirtual 85, 3) := by decide +kernel
theorem dX4_wordOf_54 : decode cX4_wordOf 54 = .ok (.goto 4, 3) := by decide +kernel
theorem dX4_wordOf_57 : decode cX4_wordOf 57 = .ok (.iconst 0, 1) := by decide +kernel
theorem dX4_wordOf_58 : decode cX4_wordOf 58 = .ok (.ireturn, 1) := by decide +kernel
theorem dX4_find_0 : decode cX4_find 0 = .ok (.aload_n 0, 1) := by decide +kernel
theorem dX4_find_1 : decode cX4_find 1 = .ok (.iload_n 1, 1) := by decide +kernel
theorem dX4_find_2 : decode cX4_find 2 = .ok (.invokestatic 39, 3) := by decide +kernel
theorem dX4_find_5 : decode cX4_find 5 = .ok (.iconst 1, 1) := by decide +kernel
theorem dX4_find_6 : decode cX4_find 6 = .ok (.iconst 1, 1) := by decide +kernel
theorem dX4_find_7 : decode cX4_find 7 = .ok (.invokevirtual 55, 3) := by decide +kernel
theorem dX4_find_10 : decode cX4_find 10 = .ok (.ifCond .eq 22, 3) := by decide +kernel
theorem dX4_find_13 : decode cX4_find 13 = .ok (.aload_n 0, 1) := by decide +kernel
theorem dX4_find_14 : decode cX4_find 14 = .ok (.getfield 24, 3) := by decide +kernel
theorem dX4_find_17 : decode cX4_find 17 = .ok (.iload_n 1, 1) := by decide +kernel
theorem dX4_find_18 : decode cX4_find 18 = .ok (.aaload, 1) := by decide +kernel
theorem dX4_find_19 : decode cX4_find 19 = .ok (.aload_n 0, 1) := by decide +kernel
theorem dX4_find_20 : decode cX4_find 20 = .ok (.getfield 28, 3) := by decide +kernel
theorem dX4_find_23 : decode cX4_find 23 = .ok (.iconst 0, 1) := by decide +kernel
theorem dX4_find_24 : decode cX4_find 24 = .ok (.aaload, 1) := by decide +kernel
theorem dX4_find_25 : decode cX4_find 25 = .ok (.iconst 0, 1) := by decide +kernel
theorem dX4_find_26 : decode cX4_find 26 = .ok (.invokevirtual 104, 3) := by decide +kernel
theorem dX4_find_29 : decode cX4_find 29 = .ok (.goto 4, 3) := by decide +kernel
theorem dX4_find_32 : decode cX4_find 32 = .ok (.iconst 0, 1) := by decide +kernel
theorem dX4_find_33 : decode cX4_find 33 = .ok (.ireturn, 1) := by decide +kernel
theorem dX4_findLast_0 : decode cX4_findLast 0 = .ok (.aload_n 0, 1) := by decide +kernel
theorem dX4_findLast_1 : decode cX4_findLast 1 = .ok (.iload_n 1, 1) := by decide +kernel
theorem dX4_findLast_2 : decode cX4_findLast 2 = .ok (.invokestatic 39, 3) := by decide +kernel
theorem dX4_findLast_5 : decode cX4_findLast 5 = .ok (.iconst 1, 1) := by decide +kernel
theorem dX4_findLast_6 : decode cX4_findLast 6 = .ok (.iconst 1, 1) := by decide +kernel
theorem dX4_findLast_7 : decode cX4_findLast 7 = .ok (.invokevirtual 55, 3) := by decide +kernel
theorem dX4_findLast_10 : decode cX4_findLast 10 = .ok (.ifCond .ne 5, 3) := by decide +kernel
theorem dX4_findLast_13 : decode cX4_findLast 13 = .ok (.iconst 0, 1) := by decide +kernel
theorem dX4_findLast_14 : decode cX4_findLast 14 = .ok (.ireturn, 1) := by decide +kernel
theorem dX4_findLast_15 : decode cX4_findLast 15 = .ok (.iconst (-1), 1) := by decide +kernel
theorem dX4_findLast_16 : decode cX4_findLast 16 = .ok (.istore_n 2, 1) := by decide +kernel
theorem dX4_findLast_17 : decode cX4_findLast 17 = .ok (.iconst 0, 1) := by decide +kernel
theorem dX4_findLast_18 : decode cX4_findLast 18 = .ok (.istore_n 3, 1) := by decide +kernel
theorem dX4_findLast_19 : decode cX4_findLast 19 = .ok (.iload_n 3, 1) := by decide +kernel
theorem dX4_findLast_20 : decode cX4_findLast 20 = .ok (.aload_n 0, 1) := by decide +kernel
theorem dX4_findLast_21 : decode cX4_findLast 21 = .ok (.getfield 24, 3) := by decide +kernel
theorem dX4_findLast_24 : decode cX4_findLast 24 = .ok (.iload_n 1, 1) := by decide +kernel
theorem dX4_findLast_25 : decode cX4_findLast 25 = .ok (.aaload, 1) := by decide +kernel
theorem dX4_findLast_26 : decode cX4_findLast 26 = .ok (.getfield 43, 3) := by decide +kernel
theorem dX4_findLast_29 : decode cX4_findLast 29 = .ok (.if_icmp .gt 34, 3) := by decide +kernel
theorem dX4_findLast_32 : decode cX4_findLast 32 = .ok (.aload_n 0, 1) := by decide +kernel
theorem dX4_findLast_33 : decode cX4_findLast 33 = .ok (.getfield 24, 3) := by decide +kernel
theorem dX4_findLast_36 : decode cX4_findLast 36 = .ok (.iload_n 1, 1) := by decide +kernel
theorem dX4_findLast_37 : decode cX4_findLast 37 = .ok (.aaload, 1) := by decide +kernel
theorem dX4_findLast_38 : decode cX4_findLast 38 = .ok (.aload_n 0, 1) := by decide +kernel
theorem dX4_findLast_39 : decode cX4_findLast 39 = .ok (.getfield 28, 3) := by decide +kernel
theorem dX4_findLast_42 : decode cX4_findLast 42 = .ok (.iconst 0, 1) := by decide +kernel
theorem dX4_findLast_43 : decode cX4_findLast 43 = .ok (.aaload, 1) := by decide +kernel
theorem dX4_findLast_44 : decode cX4_findLast 44 = .ok (.iload_n 3, 1) := by decide +kernel
theorem dX4_findLast_45 : decode cX4_findLast 45 = .ok (.invokevirtual 108, 3) := by decide +kernel
theorem dX4_findLast_48 : decode cX4_findLast 48 = .ok (.ifCond .eq 7, 3) := by decide +kernel
theorem dX4_findLast_51 : decode cX4_findLast 51 = .ok (.iload_n 3, 1) := by decide +kernel
theorem dX4_findLast_52 : decode cX4_findLast 52 = .ok (.goto 4, 3) := by decide +kernel
theorem dX4_findLast_55 : decode cX4_findLast 55 = .ok (.iload_n 2, 1) := by decide +kernel
theorem dX4_findLast_56 : decode cX4_findLast 56 = .ok (.istore_n 2, 1) := by decide +kernel
theorem dX4_findLast_57 : decode cX4_findLast 57 = .ok (.iinc 3 1, 3) := by decide +kernel
theorem dX4_findLast_60 : decode cX4_findLast 60 = .ok (.goto (-41), 3) := by decide +kernel
theorem dX4_findLast_63 : decode cX4_findLast 63 = .ok (.iload_n 2, 1) := by decide +kernel
theorem dX4_findLast_64 : decode cX4_findLast 64 = .ok (.ireturn, 1) := by decide +kernel
theorem dX4_findIn_0 : decode cX4_findIn 0 = .ok (.aload_n 0, 1) := by decide +kernel
theorem dX4_findIn_1 : decode cX4_findIn 1 = .ok (.aload_n 0, 1) := by decide +kernel
theorem dX4_findIn_2 : decode cX4_findIn 2 = .ok (.iload_n 1, 1) := by decide +kernel
theorem dX4_findIn_3 : decode cX4_findIn 3 = .ok (.iload_n 2, 1) := by decide +kernel
theorem dX4_findIn_4 : decode cX4_findIn 4 = .ok (.iload_n 3, 1) := by decide +kernel
theorem dX4_findIn_5 : decode cX4_findIn 5 = .ok (.invokevirtual 73, 3) := by decide +kernel
theorem dX4_findIn_8 : decode cX4_findIn 8 = .ok (.iconst 1, 1) := by decide +kernel
theorem dX4_findIn_9 : decode cX4_findIn 9 = .ok (.iconst 1, 1) := by decide +kernel
theorem dX4_findIn_10 : decode cX4_findIn 10 = .ok (.invokevirtual 55, 3) := by decide +kernel
theorem dX4_findIn_13 : decode cX4_findIn 13 = .ok (.ifCond .ne 5, 3) := by decide +kernel
theorem dX4_findIn_16 : decode cX4_findIn 16 = .ok (.iconst 0, 1) := by decide +kernel
theorem dX4_findIn_17 : decode cX4_findIn 17 = .ok (.ireturn, 1) := by decide +kernel
theorem dX4_findIn_18 : decode cX4_findIn 18 = .ok (.aload_n 0, 1) := by decide +kernel
theorem dX4_findIn_19 : decode cX4_findIn 19 = .ok (.getfield 24, 3) := by decide +kernel
theorem dX4_findIn_22 : decode cX4_findIn 22 = .ok (.iload_n 1, 1) := by decide +kernel
theorem dX4_findIn_23 : decode cX4_findIn 23 = .ok (.aaload, 1) := by decide +kernel
theorem dX4_findIn_24 : decode cX4_findIn 24 = .ok (.aload_n 0, 1) := by decide +kernel
theorem dX4_findIn_25 : decode cX4_findIn 25 = .ok (.getfield 28, 3) := by decide +kernel
theorem dX4_findIn_28 : decode cX4_findIn 28 = .ok (.iconst 0, 1) := by decide +kernel
theorem dX4_findIn_29 : decode cX4_findIn 29 = .ok (.aaload, 1) := by decide +kernel
theorem dX4_findIn_30 : decode cX4_findIn 30 = .ok (.iload_n 2, 1) := by decide +kernel
theorem dX4_findIn_31 : decode cX4_findIn 31 = .ok (.invokevirtual 104, 3) := by decide +kernel
theorem dX4_findIn_34 : decode cX4_findIn 34 = .ok (.istore 4, 2) := by decide +kernel
theorem dX4_findIn_36 : decode cX4_findIn 36 = .ok (.iload 4, 2) := by decide +kernel
theorem dX4_findIn_38 : decode cX4_findIn 38 = .ok (.iconst (-1), 1) := by decide +kernel
theorem dX4_findIn_39 : decode cX4_findIn 39 = .ok (.if_icmp .eq 19, 3) := by decide +kernel
theorem dX4_findIn_42 : decode cX4_findIn 42 = .ok (.iload 4, 2) := by decide +kernel
theorem dX4_findIn_44 : decode cX4_findIn 44 = .ok (.aload_n 0, 1) := by decide +kernel
theorem dX4_findIn_45 : decode cX4_findIn 45 = .ok (.getfield 28, 3) := by decide +kernel
theorem dX4_findIn_48 : decode cX4_findIn 48 = .ok (.iconst 0, 1) := by decide +kernel
theorem dX4_findIn_49 : decode cX4_findIn 49 = .ok (.aaload, 1) := by decide +kernel
theorem dX4_findIn_50 : decode cX4_findIn 50 = .ok (.getfield 43, 3) := by decide +kernel
theorem dX4_findIn_53 : decode cX4_findIn 53 = .ok (.iadd, 1) := by decide +kernel
theorem dX4_findIn_54 : decode cX4_findIn 54 = .ok (.iload_n 3, 1) := by decide +kernel
theorem dX4_findIn_55 : decode cX4_findIn 55 = .ok (.if_icmp .le 7, 3) := by decide +kernel
theorem dX4_findIn_58 : decode cX4_findIn 58 = .ok (.iconst (-1), 1) := by decide +kernel
theorem dX4_findIn_59 : decode cX4_findIn 59 = .ok (.goto 5, 3) := by decide +kernel
theorem dX4_findIn_62 : decode cX4_findIn 62 = .ok (.iload 4, 2) := by decide +kernel
theorem dX4_findIn_64 : decode cX4_findIn 64 = .ok (.ireturn, 1) := by decide +kernel
theorem dX4_count_0 : decode cX4_count 0 = .ok (.aload_n 0, 1) := by decide +kernel
theorem dX4_count_1 : decode cX4_count 1 = .ok (.iload_n 1, 1) := by decide +kernel
theorem dX4_count_2 : decode cX4_count 2 = .ok (.invokestatic 39, 3) := by decide +kernel
theorem dX4_count_5 : decode cX4_count 5 = .ok (.iconst 1, 1) := by decide +kernel
theorem dX4_count_6 : decode cX4_count 6 = .ok (.iconst 1, 1) := by decide +kernel
theorem dX4_count_7 : decode cX4_count 7 = .ok (.invokevirtual 55, 3) := by decide +kernel
theorem dX4_count_10 : decode cX4_count 10 = .ok (.ifCond .eq 22, 3) := by decide +kernel
theorem dX4_count_13 : decode cX4_count 13 = .ok (.aload_n 0, 1) := by decide +kernel
theorem dX4_count_14 : decode cX4_count 14 = .ok (.getfield 24, 3) := by decide +kernel
theorem dX4_count_17 : decode cX4_count 17 = .ok (.iload_n 1, 1) := by decide +kernel
theorem dX4_count_18 : decode cX4_count 18 = .ok (.aaload, 1) := by decide +kernel
theorem dX4_count_19 : decode cX4_count 19 = .ok (.aload_n 0, 1) := by decide +kernel
theorem dX4_count_20 : decode cX4_count 20 = .ok (.getfield 28, 3) := by decide +kernel
theorem dX4_count_23 : decode cX4_count 23 = .ok (.iconst 0, 1) := by decide +kernel
theorem dX4_count_24 : decode cX4_count 24 = .ok (.aaload, 1) := by decide +kernel
theorem dX4_count_25 : decode cX4_count 25 = .ok (.iload_n 2, 1) := by decide +kernel
theorem dX4_count_26 : decode cX4_count 26 = .ok (.invokevirtual 112, 3) := by decide +kernel
theorem dX4_count_29 : decode cX4_count 29 = .ok (.goto 4, 3) := by decide +kernel
theorem dX4_count_32 : decode cX4_count 32 = .ok (.iconst 0, 1) := by decide +kernel
theorem dX4_count_33 : decode cX4_count 33 = .ok (.ireturn, 1) := by decide +kernel
theorem dX4_replace_0 : decode cX4_replace 0 = .ok (.iload_n 1, 1) := by decide +kernel
theorem dX4_replace_1 : decode cX4_replace 1 = .ok (.invokestatic 39, 3) := by decide +kernel
theorem dX4_replace_4 : decode cX4_replace 4 = .ok (.istore_n 2, 1) := by decide +kernel
theorem dX4_replace_5 : decode cX4_replace 5 = .ok (.aload_n 0, 1) := by decide +kernel
theorem dX4_replace_6 : decode cX4_replace 6 = .ok (.getfield 28, 3) := by decide +kernel
theorem dX4_replace_9 : decode cX4_replace 9 = .ok (.iconst 0, 1) := by decide +kernel
theorem dX4_replace_10 : decode cX4_replace 10 = .ok (.aaload, 1) := by decide +kernel
theorem dX4_replace_11 : decode cX4_replace 11 = .ok (.astore_n 3, 1) := by decide +kernel
theorem dX4_replace_12 : decode cX4_replace 12 = .ok (.iload_n 2, 1) := by decide +kernel
theorem dX4_replace_13 : decode cX4_replace 13 = .ok (.ifCond .eq 24, 3) := by decide +kernel
theorem dX4_replace_16 : decode cX4_replace 16 = .ok (.aload_n 3, 1) := by decide +kernel
theorem dX4_replace_17 : decode cX4_replace 17 = .ok (.getfield 43, 3) := by decide +kernel
theorem dX4_replace_20 : decode cX4_replace 20 = .ok (.ifCond .le 17, 3) := by decide +kernel
theorem dX4_replace_23 : decode cX4_replace 23 = .ok (.aload_n 0, 1) := by decide +kernel
theorem dX4_replace_24 : decode cX4_replace 24 = .ok (.getfield 24, 3) := by decide +kernel
theorem dX4_replace_27 : decode cX4_replace 27 = .ok (.iload_n 1, 1) := by decide +kernel
theorem dX4_replace_28 : decode cX4_replace 28 = .ok (.aaload, 1) := by decide +kernel
theorem dX4_replace_29 : decode cX4_replace 29 = .ok (.aload_n 3, 1) := by decide +kernel
theorem dX4_replace_30 : decode cX4_replace 30 = .ok (.iconst 1, 1) := by decide +kernel
theorem dX4_replace_31 : decode cX4_replace 31 = .ok (.invokevirtual 112, 3) := by decide +kernel
theorem dX4_replace_34 : decode cX4_replace 34 = .ok (.goto 4, 3) := by decide +kernel
theorem dX4_replace_37 : decode cX4_replace 37 = .ok (.iconst 0, 1) := by decide +kernel
theorem dX4_replace_38 : decode cX4_replace 38 = .ok (.istore 4, 2) := by decide +kernel
theorem dX4_replace_40 : decode cX4_replace 40 = .ok (.iload_n 2, 1) := by decide +kernel
theorem dX4_replace_41 : decode cX4_replace 41 = .ok (.ifCond .eq 39, 3) := by decide +kernel
theorem dX4_replace_44 : decode cX4_replace 44 = .ok (.aload_n 0, 1) := by decide +kernel
theorem dX4_replace_45 : decode cX4_replace 45 = .ok (.getfield 24, 3) := by decide +kernel
theorem dX4_replace_48 : decode cX4_replace 48 = .ok (.iload_n 1, 1) := by decide +kernel
theorem dX4_replace_49 : decode cX4_replace 49 = .ok (.aaload, 1) := by decide +kernel
theorem dX4_replace_50 : decode cX4_replace 50 = .ok (.getfield 43, 3) := by decide +kernel
theorem dX4_replace_53 : decode cX4_replace 53 = .ok (.iload 4, 2) := by decide +kernel
theorem dX4_replace_55 : decode cX4_replace 55 = .ok (.aload_n 0, 1) := by decide +kernel
theorem dX4_replace_56 : decode cX4_replace 56 = .ok (.getfield 28, 3) := by decide +kernel
theorem dX4_replace_59 : decode cX4_replace 59 = .ok (.iconst 1, 1) := by decide +kernel
theorem dX4_replace_60 : decode cX4_replace 60 = .ok (.aaload, 1) := by decide +kernel
theorem dX4_replace_61 : decode cX4_replace 61 = .ok (.getfield 43, 3) := by decide +kernel
theorem dX4_replace_64 : decode cX4_replace 64 = .ok (.aload_n 3, 1) := by decide +kernel
theorem dX4_replace_65 : decode cX4_replace 65 = .ok (.getfield 43, 3) := by decide +kernel
theorem dX4_replace_68 : decode cX4_replace 68 = .ok (.isub, 1) := by decide +kernel
theorem dX4_replace_69 : decode cX4_replace 69 = .ok (.imul, 1) := by decide +kernel
theorem dX4_replace_70 : decode cX4_replace 70 = .ok (.iadd, 1) := by decide +kernel
theorem dX4_replace_71 : decode cX4_replace 71 = .ok (.bipush 60, 2) := by decide +kernel
theorem dX4_replace_73 : decode cX4_replace 73 = .ok (.if_icmp .gt 7, 3) := by decide +kernel
theorem dX4_replace_76 : decode cX4_replace 76 = .ok (.iconst 1, 1) := by decide +kernel
theorem dX4_replace_77 : decode cX4_replace 77 = .ok (.goto 4, 3) := by decide +kernel
theorem dX4_replace_80 : decode cX4_replace 80 = .ok (.iconst 0, 1) := by decide +kernel
theorem dX4_replace_81 : decode cX4_replace 81 = .ok (.istore 5, 2) := by decide +kernel
theorem dX4_replace_83 : decode cX4_replace 83 = .ok (.aload_n 0, 1) := by decide +kernel
theorem dX4_replace_84 : decode cX4_replace 84 = .ok (.iload_n 2, 1) := by decide +kernel
theorem dX4_replace_85 : decode cX4_replace 85 = .ok (.aload_n 3, 1) := by decide +kernel
theorem dX4_replace_86 : decode cX4_replace 86 = .ok (.getfield 43, 3) := by decide +kernel
theorem dX4_replace_89 : decode cX4_replace 89 = .ok (.ifCond .le 12, 3) := by decide +kernel
theorem dX4_replace_92 : decode cX4_replace 92 = .ok (.iload 5, 2) := by decide +kernel
theorem dX4_replace_94 : decode cX4_replace 94 = .ok (.ifCond .eq 7, 3) := by decide +kernel
theorem dX4_replace_97 : decode cX4_replace 97 = .ok (.iconst 1, 1) := by decide +kernel
theorem dX4_replace_98 : decode cX4_replace 98 = .ok (.goto 4, 3) := by decide +kernel
theorem dX4_replace_101 : decode cX4_replace 101 = .ok (.iconst 0, 1) := by decide +kernel
theorem dX4_replace_102 : decode cX4_replace 102 = .ok (.iconst 1, 1) := by decide +kernel
theorem dX4_replace_103 : decode cX4_replace 103 = .ok (.invokevirtual 55, 3) := by decide +kernel
theorem dX4_replace_106 : decode cX4_replace 106 = .ok (.ifCond .ne 5, 3) := by decide +kernel
theorem dX4_replace_109 : decode cX4_replace 109 = .ok (.iconst 0, 1) := by decide +kernel
theorem dX4_replace_110 : decode cX4_replace 110 = .ok (.ireturn, 1) := by decide +kernel
theorem dX4_replace_111 : decode cX4_replace 111 = .ok (.aload_n 0, 1) := by decide +kernel
theorem dX4_replace_112 : decode cX4_replace 112 = .ok (.getfield 31, 3) := by decide +kernel
theorem dX4_replace_115 : decode cX4_replace 115 = .ok (.aload_n 0, 1) := by decide +kernel
theorem dX4_replace_116 : decode cX4_replace 116 = .ok (.getfield 24, 3) := by decide +kernel
theorem dX4_replace_119 : decode cX4_replace 119 = .ok (.iload_n 1, 1) := by decide +kernel
theorem dX4_replace_120 : decode cX4_replace 120 = .ok (.aaload, 1) := by decide +kernel
theorem dX4_replace_121 : decode cX4_replace 121 = .ok (.invokevirtual 116, 3) := by decide +kernel
theorem dX4_replace_124 : decode cX4_replace 124 = .ok (.aload_n 0, 1) := by decide +kernel
theorem dX4_replace_125 : decode cX4_replace 125 = .ok (.getfield 24, 3) := by decide +kernel
theorem dX4_replace_128 : decode cX4_replace 128 = .ok (.iload_n 1, 1) := by decide +kernel
theorem dX4_replace_129 : decode cX4_replace 129 = .ok (.aaload, 1) := by decide +kernel
theorem dX4_replace_130 : decode cX4_replace 130 = .ok (.iconst 0, 1) := by decide +kernel
theorem dX4_replace_131 : decode cX4_replace 131 = .ok (.putfield 43, 3) := by decide +kernel
theorem dX4_replace_134 : decode cX4_replace 134 = .ok (.iconst 0, 1) := by decide +kernel
theorem dX4_replace_135 : decode cX4_replace 135 = .ok (.istore 6, 2) := by decide +kernel
theorem dX4_replace_137 : decode cX4_replace 137 = .ok (.iload 6, 2) := by decide +kernel
theorem dX4_replace_139 : decode cX4_replace 139 = .ok (.aload_n 0, 1) := by decide +kernel
theorem dX4_replace_140 : decode cX4_replace 140 = .ok (.getfield 31, 3) := by decide +kernel
theorem dX4_replace_143 : decode cX4_replace 143 = .ok (.getfield 43, 3) := by decide +kernel
theorem dX4_replace_146 : decode cX4_replace 146 = .ok (.if_icmp .ge 107, 3) := by decide +kernel
theorem dX4_replace_149 : decode cX4_replace 149 = .ok (.aload_n 0, 1) := by decide +kernel
theorem dX4_replace_150 : decode cX4_replace 150 = .ok (.getfield 31, 3) := by decide +kernel
theorem dX4_replace_153 : decode cX4_replace 153 = .ok (.aload_n 3, 1) := by decide +kernel
theorem dX4_replace_154 : decode cX4_replace 154 = .ok (.iload 6, 2) := by decide +kernel
theorem dX4_replace_156 : decode cX4_replace 156 = .ok (.invokevirtual 108, 3) := by decide +kernel
theorem dX4_replace_159 : decode cX4_replace 159 = .ok (.istore 7, 2) := by decide +kernel
theorem dX4_replace_161 : decode cX4_replace 161 = .ok (.iconst 0, 1) := by decide +kernel
theorem dX4_replace_162 : decode cX4_replace 162 = .ok (.istore 8, 2) := by decide +kernel
theorem dX4_replace_164 : decode cX4_replace 164 = .ok (.iload 7, 2) := by decide +kernel
theorem dX4_replace_166 : decode cX4_replace 166 = .ok (.ifCond .eq 43, 3) := by decide +kernel
theorem dX4_replace_169 : decode cX4_replace 169 = .ok (.iload 8, 2) := by decide +kernel
theorem dX4_replace_171 : decode cX4_replace 171 = .ok (.aload_n 0, 1) := by decide +kernel
theorem dX4_replace_172 : decode cX4_replace 172 = .ok (.getfield 28, 3) := by decide +kernel
theorem dX4_replace_175 : decode cX4_replace 175 = .ok (.iconst 1, 1) := by decide +kernel
theorem dX4_replace_176 : decode cX4_replace 176 = .ok (.aaload, 1) := by decide +kernel
theorem dX4_replace_177 : decode cX4_replace 177 = .ok (.getfield 43, 3) := by decide +kernel
theorem dX4_replace_180 : decode cX4_replace 180 = .ok (.if_icmp .ge 29, 3) := by decide +kernel
theorem dX4_replace_183 : decode cX4_replace 183 = .ok (.aload_n 0, 1) := by decide +kernel
theorem dX4_replace_184 : decode cX4_replace 184 = .ok (.getfield 24, 3) := by decide +kernel
theorem dX4_replace_187 : decode cX4_replace 187 = .ok (.iload_n 1, 1) := by decide +kernel
theorem dX4_replace_188 : decode cX4_replace 188 = .ok (.aaload, 1) := by decide +kernel
theorem dX4_replace_189 : decode cX4_replace 189 = .ok (.aload_n 0, 1) := by decide +kernel
theorem dX4_replace_190 : decode cX4_replace 190 = .ok (.getfield 28, 3) := by decide +kernel
theorem dX4_replace_193 : decode cX4_replace 193 = .ok (.iconst 1, 1) := by decide +kernel
theorem dX4_replace_194 : decode cX4_replace 194 = .ok (.aaload, 1) := by decide +kernel
theorem dX4_replace_195 : decode cX4_replace 195 = .ok (.iload 8, 2) := by decide +kernel
theorem dX4_replace_197 : decode cX4_replace 197 = .ok (.invokevirtual 85, 3) := by decide +kernel
theorem dX4_replace_200 : decode cX4_replace 200 = .ok (.invokevirtual 59, 3) := by decide +kernel
theorem dX4_replace_203 : decode cX4_replace 203 = .ok (.iinc 8 1, 3) := by decide +kernel
theorem dX4_replace_206 : decode cX4_replace 206 = .ok (.goto (-42), 3) := by decide +kernel
theorem dX4_replace_209 : decode cX4_replace 209 = .ok (.iload 7, 2) := by decide +kernel
theorem dX4_replace_211 : decode cX4_replace 211 = .ok (.ifCond .ne 21, 3) := by decide +kernel
theorem dX4_replace_214 : decode cX4_replace 214 = .ok (.aload_n 0, 1) := by decide +kernel
theorem dX4_replace_215 : decode cX4_replace 215 = .ok (.getfield 24, 3) := by decide +kernel
theorem dX4_replace_218 : decode cX4_replace 218 = .ok (.iload_n 1, 1) := by decide +kernel
theorem dX4_replace_219 : decode cX4_replace 219 = .ok (.aaload, 1) := by decide +kernel
theorem dX4_replace_220 : decode cX4_replace 220 = .ok (.aload_n 0, 1) := by decide +kernel
theorem dX4_replace_221 : decode cX4_replace 221 = .ok (.getfield 31, 3) := by decide +kernel
theorem dX4_replace_224 : decode cX4_replace 224 = .ok (.iload 6, 2) := by decide +kernel
theorem dX4_replace_226 : decode cX4_replace 226 = .ok (.invokevirtual 85, 3) := by decide +kernel
theorem dX4_replace_229 : decode cX4_replace 229 = .ok (.invokevirtual 59, 3) := by decide +kernel
theorem dX4_replace_232 : decode cX4_replace 232 = .ok (.iload 6, 2) := by decide +kernel
theorem dX4_replace_234 : decode cX4_replace 234 = .ok (.iload 7, 2) := by decide +kernel
theorem dX4_replace_236 : decode cX4_replace 236 = .ok (.ifCond .eq 10, 3) := by decide +kernel
theorem dX4_replace_239 : decode cX4_replace 239 = .ok (.aload_n 3, 1) := by decide +kernel
theorem dX4_replace_240 : decode cX4_replace 240 = .ok (.getfield 43, 3) := by decide +kernel
theorem dX4_replace_243 : decode cX4_replace 243 = .ok (.goto 4, 3) := by decide +kernel
theorem dX4_replace_246 : decode cX4_replace 246 = .ok (.iconst 1, 1) := by decide +kernel
theorem dX4_replace_247 : decode cX4_replace 247 = .ok (.iadd, 1) := by decide +kernel
theorem dX4_replace_248 : decode cX4_replace 248 = .ok (.istore 6, 2) := by decide +kernel
theorem dX4_replace_250 : decode cX4_replace 250 = .ok (.goto (-113), 3) := by decide +kernel
theorem dX4_replace_253 : decode cX4_replace 253 = .ok (.iload 4, 2) := by decide +kernel
theorem dX4_replace_255 : decode cX4_replace 255 = .ok (.ireturn, 1) := by decide +kernel
theorem dX4_replaceWord_0 : decode cX4_replaceWord 0 = .ok (.aload_n 0, 1) := by decide +kernel
theorem dX4_replaceWord_1 : decode cX4_replaceWord 1 = .ok (.iload_n 1, 1) := by decide +kernel
theorem dX4_replaceWord_2 : decode cX4_replaceWord 2 = .ok (.invokestatic 39, 3) := by decide +kernel
theorem dX4_replaceWord_5 : decode cX4_replaceWord 5 = .ok (.ifCond .eq 21, 3) := by decide +kernel
theorem dX4_replaceWord_8 : decode cX4_replaceWord 8 = .ok (.iload_n 2, 1) := by decide +kernel
theorem dX4_replaceWord_9 : decode cX4_replaceWord 9 = .ok (.invokestatic 48, 3) := by decide +kernel
theorem dX4_replaceWord_12 : decode cX4_replaceWord 12 = .ok (.ifCond .eq 14, 3) := by decide +kernel
theorem dX4_replaceWord_15 : decode cX4_replaceWord 15 = .ok (.iload_n 3, 1) := by decide +kernel
theorem dX4_replaceWord_16 : decode cX4_replaceWord 16 = .ok (.invokestatic 48, 3) := by decide +kernel
theorem dX4_replaceWord_19 : decode cX4_replaceWord 19 = .ok (.ifCond .eq 7, 3) := by decide +kernel
theorem dX4_replaceWord_22 : decode cX4_replaceWord 22 = .ok (.iconst 1, 1) := by decide +kernel
theorem dX4_replaceWord_23 : decode cX4_replaceWord 23 = .ok (.goto 4, 3) := by decide +kernel
theorem dX4_replaceWord_26 : decode cX4_replaceWord 26 = .ok (.iconst 0, 1) := by decide +kernel
theorem dX4_replaceWord_27 : decode cX4_replaceWord 27 = .ok (.iconst 1, 1) := by decide +kernel
theorem dX4_replaceWord_28 : decode cX4_replaceWord 28 = .ok (.iconst 1, 1) := by decide +kernel
theorem dX4_replaceWord_29 : decode cX4_replaceWord 29 = .ok (.invokevirtual 55, 3) := by decide +kernel
theorem dX4_replaceWord_32 : decode cX4_replaceWord 32 = .ok (.ifCond .ne 5, 3) := by decide +kernel
theorem dX4_replaceWord_35 : decode cX4_replaceWord 35 = .ok (.iconst 0, 1) := by decide +kernel
theorem dX4_replaceWord_36 : decode cX4_replaceWord 36 = .ok (.ireturn, 1) := by decide +kernel
theorem dX4_replaceWord_37 : decode cX4_replaceWord 37 = .ok (.aload_n 0, 1) := by decide +kernel
theorem dX4_replaceWord_38 : decode cX4_replaceWord 38 = .ok (.getfield 24, 3) := by decide +kernel
theorem dX4_replaceWord_41 : decode cX4_replaceWord 41 = .ok (.iload_n 1, 1) := by decide +kernel
theorem dX4_replaceWord_42 : decode cX4_replaceWord 42 = .ok (.aaload, 1) := by decide +kernel
theorem dX4_replaceWord_43 : decode cX4_replaceWord 43 = .ok (.iload_n 2, 1) := by decide +kernel
theorem dX4_replaceWord_44 : decode cX4_replaceWord 44 = .ok (.invokevirtual 120, 3) := by decide +kernel
theorem dX4_replaceWord_47 : decode cX4_replaceWord 47 = .ok (.ifCond .le 7, 3) := by decide +kernel
theorem dX4_replaceWord_50 : decode cX4_replaceWord 50 = .ok (.iconst 1, 1) := by decide +kernel
theorem dX4_replaceWord_51 : decode cX4_replaceWord 51 = .ok (.goto 4, 3) := by decide +kernel
theorem dX4_replaceWord_54 : decode cX4_replaceWord 54 = .ok (.iconst 0, 1) := by decide +kernel
theorem dX4_replaceWord_55 : decode cX4_replaceWord 55 = .ok (.istore 4, 2) := by decide +kernel
theorem dX4_replaceWord_57 : decode cX4_replaceWord 57 = .ok (.iconst 0, 1) := by decide +kernel
theorem dX4_replaceWord_58 : decode cX4_replaceWord 58 = .ok (.istore 5, 2) := by decide +kernel
theorem dX4_replaceWord_60 : decode cX4_replaceWord 60 = .ok (.iload 5, 2) := by decide +kernel
theorem dX4_replaceWord_62 : decode cX4_replaceWord 62 = .ok (.aload_n 0, 1) := by decide +kernel
theorem dX4_replaceWord_63 : decode cX4_replaceWord 63 = .ok (.getfield 24, 3) := by decide +kernel
theorem dX4_replaceWord_66 : decode cX4_replaceWord 66 = .ok (.iload_n 1, 1) := by decide +kernel
theorem dX4_replaceWord_67 : decode cX4_replaceWord 67 = .ok (.aaload, 1) := by decide +kernel
theorem dX4_replaceWord_68 : decode cX4_replaceWord 68 = .ok (.getfield 43, 3) := by decide +kernel
theorem dX4_replaceWord_71 : decode cX4_replaceWord 71 = .ok (.if_icmp .ge 51, 3) := by decide +kernel
theorem dX4_replaceWord_74 : decode cX4_replaceWord 74 = .ok (.aload_n 0, 1) := by decide +kernel
theorem dX4_replaceWord_75 : decode cX4_replaceWord 75 = .ok (.getfield 24, 3) := by decide +kernel
theorem dX4_replaceWord_78 : decode cX4_replaceWord 78 = .ok (.iload_n 1, 1) := by decide +kernel
theorem dX4_replaceWord_79 : decode cX4_replaceWord 79 = .ok (.aaload, 1) := by decide +kernel
theorem dX4_replaceWord_80 : decode cX4_replaceWord 80 = .ok (.getfield 89, 3) := by decide +kernel
theorem dX4_replaceWord_83 : decode cX4_replaceWord 83 = .ok (.iload 5, 2) := by decide +kernel
theorem dX4_replaceWord_85 : decode cX4_replaceWord 85 = .ok (.aload_n 0, 1) := by decide +kernel
theorem dX4_replaceWord_86 : decode cX4_replaceWord 86 = .ok (.getfield 24, 3) := by decide +kernel
theorem dX4_replaceWord_89 : decode cX4_replaceWord 89 = .ok (.iload_n 1, 1) := by decide +kernel
theorem dX4_replaceWord_90 : decode cX4_replaceWord 90 = .ok (.aaload, 1) := by decide +kernel
theorem dX4_replaceWord_91 : decode cX4_replaceWord 91 = .ok (.iload 5, 2) := by decide +kernel
theorem dX4_replaceWord_93 : decode cX4_replaceWord 93 = .ok (.invokevirtual 85, 3) := by decide +kernel
theorem dX4_replaceWord_96 : decode cX4_replaceWord 96 = .ok (.iload_n 2, 1) := by decide +kernel
theorem dX4_replaceWord_97 : decode cX4_replaceWord 97 = .ok (.if_icmp .ne 7, 3) := by decide +kernel
theorem dX4_replaceWord_100 : decode cX4_replaceWord 100 = .ok (.iload_n 3, 1) := by decide +kernel
theorem dX4_replaceWord_101 : decode cX4_replaceWord 101 = .ok (.goto 14, 3) := by decide +kernel
theorem dX4_replaceWord_104 : decode cX4_replaceWord 104 = .ok (.aload_n 0, 1) := by decide +kernel
theorem dX4_replaceWord_105 : decode cX4_replaceWord 105 = .ok (.getfield 24, 3) := by decide +kernel
theorem dX4_replaceWord_108 : decode cX4_replaceWord 108 = .ok (.iload_n 1, 1) := by decide +kernel
theorem dX4_replaceWord_109 : decode cX4_replaceWord 109 = .ok (.aaload, 1) := by decide +kernel
theorem dX4_replaceWord_110 : decode cX4_replaceWord 110 = .ok (.iload 5, 2) := by decide +kernel
theorem dX4_replaceWord_112 : decode cX4_replaceWord 112 = .ok (.invokevirtual 85, 3) := by decide +kernel
theorem dX4_replaceWord_115 : decode cX4_replaceWord 115 = .ok (.iastore, 1) := by decide +kernel
theorem dX4_replaceWord_116 : decode cX4_replaceWord 116 = .ok (.iinc 5 1, 3) := by decide +kernel
theorem dX4_replaceWord_119 : decode cX4_replaceWord 119 = .ok (.goto (-59), 3) := by decide +kernel
theorem dX4_replaceWord_122 : decode cX4_replaceWord 122 = .ok (.iload 4, 2) := by decide +kernel
theorem dX4_replaceWord_124 : decode cX4_replaceWord 124 = .ok (.ireturn, 1) := by decide +kernel
theorem dX4_frequency_0 : decode cX4_frequency 0 = .ok (.aload_n 0, 1) := by decide +kernel
theorem dX4_frequency_1 : decode cX4_frequency 1 = .ok (.iload_n 1, 1) := by decide +kernel
theorem dX4_frequency_2 : decode cX4_frequency 2 = .ok (.invokestatic 39, 3) := by decide +kernel
theorem dX4_frequency_5 : decode cX4_frequency 5 = .ok (.ifCond .eq 14, 3) := by decide +kernel
theorem dX4_frequency_8 : decode cX4_frequency 8 = .ok (.iload_n 2, 1) := by decide +kernel
theorem dX4_frequency_9 : decode cX4_frequency 9 = .ok (.invokestatic 48, 3) := by decide +kernel
theorem dX4_frequency_12 : decode cX4_frequency 12 = .ok (.ifCond .eq 7, 3) := by decide +kernel
theorem dX4_frequency_15 : decode cX4_frequency 15 = .ok (.iconst 1, 1) := by decide +kernel
theorem dX4_frequency_16 : decode cX4_frequency 16 = .ok (.goto 4, 3) := by decide +kernel
theorem dX4_frequency_19 : decode cX4_frequency 19 = .ok (.iconst 0, 1) := by decide +kernel
theorem dX4_frequency_20 : decode cX4_frequency 20 = .ok (.iconst 1, 1) := by decide +kernel
theorem dX4_frequency_21 : decode cX4_frequency 21 = .ok (.iconst 1, 1) := by decide +kernel
theorem dX4_frequency_22 : decode cX4_frequency 22 = .ok (.invokevirtual 55, 3) := by decide +kernel
theorem dX4_frequency_25 : decode cX4_frequency 25 = .ok (.ifCond .eq 16, 3) := by decide +kernel
theorem dX4_frequency_28 : decode cX4_frequency 28 = .ok (.aload_n 0, 1) := by decide +kernel
theorem dX4_frequency_29 : decode cX4_frequency 29 = .ok (.getfield 24, 3) := by decide +kernel
theorem dX4_frequency_32 : decode cX4_frequency 32 = .ok (.iload_n 1, 1) := by decide +kernel
theorem dX4_frequency_33 : decode cX4_frequency 33 = .ok (.aaload, 1) := by decide +kernel
theorem dX4_frequency_34 : decode cX4_frequency 34 = .ok (.iload_n 2, 1) := by decide +kernel
theorem dX4_frequency_35 : decode cX4_frequency 35 = .ok (.invokevirtual 120, 3) := by decide +kernel
theorem dX4_frequency_38 : decode cX4_frequency 38 = .ok (.goto 4, 3) := by decide +kernel
theorem dX4_frequency_41 : decode cX4_frequency 41 = .ok (.iconst 0, 1) := by decide +kernel
theorem dX4_frequency_42 : decode cX4_frequency 42 = .ok (.ireturn, 1) := by decide +kernel
theorem dX4_different_0 : decode cX4_different 0 = .ok (.aload_n 0, 1) := by decide +kernel
theorem dX4_different_1 : decode cX4_different 1 = .ok (.iload_n 1, 1) := by decide +kernel
theorem dX4_different_2 : decode cX4_different 2 = .ok (.invokestatic 39, 3) := by decide +kernel
theorem dX4_different_5 : decode cX4_different 5 = .ok (.iconst 1, 1) := by decide +kernel
theorem dX4_different_6 : decode cX4_different 6 = .ok (.iconst 1, 1) := by decide +kernel
theorem dX4_different_7 : decode cX4_different 7 = .ok (.invokevirtual 55, 3) := by decide +kernel
theorem dX4_different_10 : decode cX4_different 10 = .ok (.ifCond .ne 5, 3) := by decide +kernel
theorem dX4_different_13 : decode cX4_different 13 = .ok (.iconst 0, 1) := by decide +kernel
theorem dX4_different_14 : decode cX4_different 14 = .ok (.ireturn, 1) := by decide +kernel
theorem dX4_different_15 : decode cX4_different 15 = .ok (.iconst 0, 1) := by decide +kernel
theorem dX4_different_16 : decode cX4_different 16 = .ok (.istore_n 2, 1) := by decide +kernel
theorem dX4_different_17 : decode cX4_different 17 = .ok (.iconst 0, 1) := by decide +kernel
theorem dX4_different_18 : decode cX4_different 18 = .ok (.istore_n 3, 1) := by decide +kernel
theorem dX4_different_19 : decode cX4_different 19 = .ok (.iload_n 3, 1) := by decide +kernel
theorem dX4_different_20 : decode cX4_different 20 = .ok (.bipush 100, 2) := by decide +kernel
theorem dX4_different_22 : decode cX4_different 22 = .ok (.if_icmp .ge 30, 3) := by decide +kernel
theorem dX4_different_25 : decode cX4_different 25 = .ok (.iload_n 2, 1) := by decide +kernel
theorem dX4_different_26 : decode cX4_different 26 = .ok (.aload_n 0, 1) := by decide +kernel
theorem dX4_different_27 : decode cX4_different 27 = .ok (.getfield 24, 3) := by decide +kernel
theorem dX4_different_30 : decode cX4_different 30 = .ok (.iload_n 1, 1) := by decide +kernel
theorem dX4_different_31 : decode cX4_different 31 = .ok (.aaload, 1) := by decide +kernel
theorem dX4_different_32 : decode cX4_different 32 = .ok (.iload_n 3, 1) := by decide +kernel
theorem dX4_different_33 : decode cX4_different 33 = .ok (.invokevirtual 120, 3) := by decide +kernel
theorem dX4_different_36 : decode cX4_different 36 = .ok (.ifCond .le 7, 3) := by decide +kernel
theorem dX4_different_39 : decode cX4_different 39 = .ok (.iconst 1, 1) := by decide +kernel
theorem dX4_different_40 : decode cX4_different 40 = .ok (.goto 4, 3) := by decide +kernel
theorem dX4_different_43 : decode cX4_different 43 = .ok (.iconst 0, 1) := by decide +kernel
theorem dX4_different_44 : decode cX4_different 44 = .ok (.iadd, 1) := by decide +kernel
theorem dX4_different_45 : decode cX4_different 45 = .ok (.istore_n 2, 1) := by decide +kernel
theorem dX4_different_46 : decode cX4_different 46 = .ok (.iinc 3 1, 3) := by decide +kernel
theorem dX4_different_49 : decode cX4_different 49 = .ok (.goto (-30), 3) := by decide +kernel
theorem dX4_different_52 : decode cX4_different 52 = .ok (.iload_n 2, 1) := by decide +kernel
theorem dX4_different_53 : decode cX4_different 53 = .ok (.ireturn, 1) := by decide +kernel
theorem dX4_most_0 : decode cX4_most 0 = .ok (.aload_n 0, 1) := by decide +kernel
theorem dX4_most_1 : decode cX4_most 1 = .ok (.iload_n 1, 1) := by decide +kernel
theorem dX4_most_2 : decode cX4_most 2 = .ok (.invokestatic 39, 3) := by decide +kernel
theorem dX4_most_5 : decode cX4_most 5 = .ok (.iload_n 1, 1) := by decide +kernel
theorem dX4_most_6 : decode cX4_most 6 = .ok (.invokestatic 39, 3) := by decide +kernel
theorem dX4_most_9 : decode cX4_most 9 = .ok (.ifCond .eq 19, 3) := by decide +kernel
theorem dX4_most_12 : decode cX4_most 12 = .ok (.aload_n 0, 1) := by decide +kernel
theorem dX4_most_13 : decode cX4_most 13 = .ok (.getfield 24, 3) := by decide +kernel
theorem dX4_most_16 : decode cX4_most 16 = .ok (.iload_n 1, 1) := by decide +kernel
theorem dX4_most_17 : decode cX4_most 17 = .ok (.aaload, 1) := by decide +kernel
theorem dX4_most_18 : decode cX4_most 18 = .ok (.getfield 43, 3) := by decide +kernel
theorem dX4_most_21 : decode cX4_most 21 = .ok (.ifCond .le 7, 3) := by decide +kernel
theorem dX4_most_24 : decode cX4_most 24 = .ok (.iconst 1, 1) := by decide +kernel
theorem dX4_most_25 : decode cX4_most 25 = .ok (.goto 4, 3) := by decide +kernel
theorem dX4_most_28 : decode cX4_most 28 = .ok (.iconst 0, 1) := by decide +kernel
theorem dX4_most_29 : decode cX4_most 29 = .ok (.iconst 1, 1) := by decide +kernel
theorem dX4_most_30 : decode cX4_most 30 = .ok (.invokevirtual 55, 3) := by decide +kernel
theorem dX4_most_33 : decode cX4_most 33 = .ok (.ifCond .ne 5, 3) := by decide +kernel
theorem dX4_most_36 : decode cX4_most 36 = .ok (.iconst 0, 1) := by decide +kernel
theorem dX4_most_37 : decode cX4_most 37 = .ok (.ireturn, 1) := by decide +kernel
theorem dX4_most_38 : decode cX4_most 38 = .ok (.iconst 0, 1) := by decide +kernel
theorem dX4_most_39 : decode cX4_most 39 = .ok (.istore_n 2, 1) := by decide +kernel
theorem dX4_most_40 : decode cX4_most 40 = .ok (.iconst 1, 1) := by decide +kernel
theorem dX4_most_41 : decode cX4_most 41 = .ok (.istore_n 3, 1) := by decide +kernel
theorem dX4_most_42 : decode cX4_most 42 = .ok (.iload_n 3, 1) := by decide +kernel
theorem dX4_most_43 : decode cX4_most 43 = .ok (.bipush 100, 2) := by decide +kernel
theorem dX4_most_45 : decode cX4_most 45 = .ok (.if_icmp .ge 38, 3) := by decide +kernel
theorem dX4_most_48 : decode cX4_most 48 = .ok (.aload_n 0, 1) := by decide +kernel
theorem dX4_most_49 : decode cX4_most 49 = .ok (.getfield 24, 3) := by decide +kernel
theorem dX4_most_52 : decode cX4_most 52 = .ok (.iload_n 1, 1) := by decide +kernel
theorem dX4_most_53 : decode cX4_most 53 = .ok (.aaload, 1) := by decide +kernel
theorem dX4_most_54 : decode cX4_most 54 = .ok (.iload_n 3, 1) := by decide +kernel
theorem dX4_most_55 : decode cX4_most 55 = .ok (.invokevirtual 120, 3) := by decide +kernel
theorem dX4_most_58 : decode cX4_most 58 = .ok (.aload_n 0, 1) := by decide +kernel
theorem dX4_most_59 : decode cX4_most 59 = .ok (.getfield 24, 3) := by decide +kernel
theorem dX4_most_62 : decode cX4_most 62 = .ok (.iload_n 1, 1) := by decide +kernel
theorem dX4_most_63 : decode cX4_most 63 = .ok (.aaload, 1) := by decide +kernel
theorem dX4_most_64 : decode cX4_most 64 = .ok (.iload_n 2, 1) := by decide +kernel
theorem dX4_most_65 : decode cX4_most 65 = .ok (.invokevirtual 120, 3) := by decide +kernel
theorem dX4_most_68 : decode cX4_most 68 = .ok (.if_icmp .le 7, 3) := by decide +kernel
theorem dX4_most_71 : decode cX4_most 71 = .ok (.iload_n 3, 1) := by decide +kernel
theorem dX4_most_72 : decode cX4_most 72 = .ok (.goto 4, 3) := by decide +kernel
theorem dX4_most_75 : decode cX4_most 75 = .ok (.iload_n 2, 1) := by decide +kernel
theorem dX4_most_76 : decode cX4_most 76 = .ok (.istore_n 2, 1) := by decide +kernel
theorem dX4_most_77 : decode cX4_most 77 = .ok (.iinc 3 1, 3) := by decide +kernel
theorem dX4_most_80 : decode cX4_most 80 = .ok (.goto (-38), 3) := by decide +kernel
theorem dX4_most_83 : decode cX4_most 83 = .ok (.iload_n 2, 1) := by decide +kernel
theorem dX4_most_84 : decode cX4_most 84 = .ok (.ireturn, 1) := by decide +kernel
theorem dX4_isApart_0 : decode cX4_isApart 0 = .ok (.aload_n 0, 1) := by decide +kernel
theorem dX4_isApart_1 : decode cX4_isApart 1 = .ok (.iload_n 1, 1) := by decide +kernel
theorem dX4_isApart_2 : decode cX4_isApart 2 = .ok (.invokestatic 39, 3) := by decide +kernel
theorem dX4_isApart_5 : decode cX4_isApart 5 = .ok (.ifCond .eq 14, 3) := by decide +kernel
theorem dX4_isApart_8 : decode cX4_isApart 8 = .ok (.iload_n 2, 1) := by decide +kernel
theorem dX4_isApart_9 : decode cX4_isApart 9 = .ok (.invokestatic 39, 3) := by decide +kernel
theorem dX4_isApart_12 : decode cX4_isApart 12 = .ok (.ifCond .eq 7, 3) := by decide +kernel
theorem dX4_isApart_15 : decode cX4_isApart 15 = .ok (.iconst 1, 1) := by decide +kernel
theorem dX4_isApart_16 : decode cX4_isApart 16 = .ok (.goto 4, 3) := by decide +kernel
theorem dX4_isApart_19 : decode cX4_isApart 19 = .ok (.iconst 0, 1) := by decide +kernel
theorem dX4_isApart_20 : decode cX4_isApart 20 = .ok (.iconst 1, 1) := by decide +kernel
theorem dX4_isApart_21 : decode cX4_isApart 21 = .ok (.iconst 1, 1) := by decide +kernel
theorem dX4_isApart_22 : decode cX4_isApart 22 = .ok (.invokevirtual 55, 3) := by decide +kernel
theorem dX4_isApart_25 : decode cX4_isApart 25 = .ok (.ifCond .ne 5, 3) := by decide +kernel
theorem dX4_isApart_28 : decode cX4_isApart 28 = .ok (.iconst 0, 1) := by decide +kernel
theorem dX4_isApart_29 : decode cX4_isApart 29 = .ok (.ireturn, 1) := by decide +kernel
theorem dX4_isApart_30 : decode cX4_isApart 30 = .ok (.iconst 0, 1) := by decide +kernel
theorem dX4_isApart_31 : decode cX4_isApart 31 = .ok (.istore_n 3, 1) := by decide +kernel
theorem dX4_isApart_32 : decode cX4_isApart 32 = .ok (.iload_n 3, 1) := by decide +kernel
theorem dX4_isApart_33 : decode cX4_isApart 33 = .ok (.bipush 100, 2) := by decide +kernel
theorem dX4_isApart_35 : decode cX4_isApart 35 = .ok (.if_icmp .ge 37, 3) := by decide +kernel
theorem dX4_isApart_38 : decode cX4_isApart 38 = .ok (.aload_n 0, 1) := by decide +kernel
theorem dX4_isApart_39 : decode cX4_isApart 39 = .ok (.getfield 24, 3) := by decide +kernel
theorem dX4_isApart_42 : decode cX4_isApart 42 = .ok (.iload_n 1, 1) := by decide +kernel
theorem dX4_isApart_43 : decode cX4_isApart 43 = .ok (.aaload, 1) := by decide +kernel
theorem dX4_isApart_44 : decode cX4_isApart 44 = .ok (.iload_n 3, 1) := by decide +kernel
theorem dX4_isApart_45 : decode cX4_isApart 45 = .ok (.invokevirtual 120, 3) := by decide +kernel
theorem dX4_isApart_48 : decode cX4_isApart 48 = .ok (.ifCond .le 18, 3) := by decide +kernel
theorem dX4_isApart_51 : decode cX4_isApart 51 = .ok (.aload_n 0, 1) := by decide +kernel
theorem dX4_isApart_52 : decode cX4_isApart 52 = .ok (.getfield 24, 3) := by decide +kernel
theorem dX4_isApart_55 : decode cX4_isApart 55 = .ok (.iload_n 2, 1) := by decide +kernel
theorem dX4_isApart_56 : decode cX4_isApart 56 = .ok (.aaload, 1) := by decide +kernel
theorem dX4_isApart_57 : decode cX4_isApart 57 = .ok (.iload_n 3, 1) := by decide +kernel
theorem dX4_isApart_58 : decode cX4_isApart 58 = .ok (.invokevirtual 120, 3) := by decide +kernel
theorem dX4_isApart_61 : decode cX4_isApart 61 = .ok (.ifCond .le 5, 3) := by decide +kernel
theorem dX4_isApart_64 : decode cX4_isApart 64 = .ok (.iconst 0, 1) := by decide +kernel
theorem dX4_isApart_65 : decode cX4_isApart 65 = .ok (.ireturn, 1) := by decide +kernel
theorem dX4_isApart_66 : decode cX4_isApart 66 = .ok (.iinc 3 1, 3) := by decide +kernel
theorem dX4_isApart_69 : decode cX4_isApart 69 = .ok (.goto (-37), 3) := by decide +kernel
theorem dX4_isApart_72 : decode cX4_isApart 72 = .ok (.iconst 1, 1) := by decide +kernel
theorem dX4_isApart_73 : decode cX4_isApart 73 = .ok (.ireturn, 1) := by decide +kernel
theorem dX4_alone_0 : decode cX4_alone 0 = .ok (.aload_n 0, 1) := by decide +kernel
theorem dX4_alone_1 : decode cX4_alone 1 = .ok (.iload_n 1, 1) := by decide +kernel
theorem dX4_alone_2 : decode cX4_alone 2 = .ok (.invokestatic 39, 3) := by decide +kernel
theorem dX4_alone_5 : decode cX4_alone 5 = .ok (.ifCond .eq 14, 3) := by decide +kernel
theorem dX4_alone_8 : decode cX4_alone 8 = .ok (.iload_n 2, 1) := by decide +kernel
theorem dX4_alone_9 : decode cX4_alone 9 = .ok (.invokestatic 39, 3) := by decide +kernel
theorem dX4_alone_12 : decode cX4_alone 12 = .ok (.ifCond .eq 7, 3) := by decide +kernel
theorem dX4_alone_15 : decode cX4_alone 15 = .ok (.iconst 1, 1) := by decide +kernel
theorem dX4_alone_16 : decode cX4_alone 16 = .ok (.goto 4, 3) := by decide +kernel
theorem dX4_alone_19 : decode cX4_alone 19 = .ok (.iconst 0, 1) := by decide +kernel
theorem dX4_alone_20 : decode cX4_alone 20 = .ok (.iconst 1, 1) := by decide +kernel
theorem dX4_alone_21 : decode cX4_alone 21 = .ok (.iconst 1, 1) := by decide +kernel
theorem dX4_alone_22 : decode cX4_alone 22 = .ok (.invokevirtual 55, 3) := by decide +kernel
theorem dX4_alone_25 : decode cX4_alone 25 = .ok (.ifCond .ne 5, 3) := by decide +kernel
theorem dX4_alone_28 : decode cX4_alone 28 = .ok (.iconst 0, 1) := by decide +kernel
theorem dX4_alone_29 : decode cX4_alone 29 = .ok (.ireturn, 1) := by decide +kernel
theorem dX4_alone_30 : decode cX4_alone 30 = .ok (.iconst 0, 1) := by decide +kernel
theorem dX4_alone_31 : decode cX4_alone 31 = .ok (.istore_n 3, 1) := by decide +kernel
theorem dX4_alone_32 : decode cX4_alone 32 = .ok (.iconst 0, 1) := by decide +kernel
theorem dX4_alone_33 : decode cX4_alone 33 = .ok (.istore 4, 2) := by decide +kernel
theorem dX4_alone_35 : decode cX4_alone 35 = .ok (.iload 4, 2) := by decide +kernel
theorem dX4_alone_37 : decode cX4_alone 37 = .ok (.bipush 100, 2) := by decide +kernel
theorem dX4_alone_39 : decode cX4_alone 39 = .ok (.if_icmp .ge 45, 3) := by decide +kernel
theorem dX4_alone_42 : decode cX4_alone 42 = .ok (.iload_n 3, 1) := by decide +kernel
theorem dX4_alone_43 : decode cX4_alone 43 = .ok (.aload_n 0, 1) := by decide +kernel
theorem dX4_alone_44 : decode cX4_alone 44 = .ok (.getfield 24, 3) := by decide +kernel
theorem dX4_alone_47 : decode cX4_alone 47 = .ok (.iload_n 1, 1) := by decide +kernel
theorem dX4_alone_48 : decode cX4_alone 48 = .ok (.aaload, 1) := by decide +kernel
theorem dX4_alone_49 : decode cX4_alone 49 = .ok (.iload 4, 2) := by decide +kernel
theorem dX4_alone_51 : decode cX4_alone 51 = .ok (.invokevirtual 120, 3) := by decide +kernel
theorem dX4_alone_54 : decode cX4_alone 54 = .ok (.ifCond .le 21, 3) := by decide +kernel
theorem dX4_alone_57 : decode cX4_alone 57 = .ok (.aload_n 0, 1) := by decide +kernel
theorem dX4_alone_58 : decode cX4_alone 58 = .ok (.getfield 24, 3) := by decide +kernel
theorem dX4_alone_61 : decode cX4_alone 61 = .ok (.iload_n 2, 1) := by decide +kernel
theorem dX4_alone_62 : decode cX4_alone 62 = .ok (.aaload, 1) := by decide +kernel
theorem dX4_alone_63 : decode cX4_alone 63 = .ok (.iload 4, 2) := by decide +kernel
theorem dX4_alone_65 : decode cX4_alone 65 = .ok (.invokevirtual 120, 3) := by decide +kernel
theorem dX4_alone_68 : decode cX4_alone 68 = .ok (.ifCond .ne 7, 3) := by decide +kernel
theorem dX4_alone_71 : decode cX4_alone 71 = .ok (.iconst 1, 1) := by decide +kernel
theorem dX4_alone_72 : decode cX4_alone 72 = .ok (.goto 4, 3) := by decide +kernel
theorem dX4_alone_75 : decode cX4_alone 75 = .ok (.iconst 0, 1) := by decide +kernel
theorem dX4_alone_76 : decode cX4_alone 76 = .ok (.iadd, 1) := by decide +kernel
theorem dX4_alone_77 : decode cX4_alone 77 = .ok (.istore_n 3, 1) := by decide +kernel
theorem dX4_alone_78 : decode cX4_alone 78 = .ok (.iinc 4 1, 3) := by decide +kernel
theorem dX4_alone_81 : decode cX4_alone 81 = .ok (.goto (-46), 3) := by decide +kernel
theorem dX4_alone_84 : decode cX4_alone 84 = .ok (.iload_n 3, 1) := by decide +kernel
theorem dX4_alone_85 : decode cX4_alone 85 = .ok (.ireturn, 1) := by decide +kernel
theorem dX4_valueOf_0 : decode cX4_valueOf 0 = .ok (.iload_n 2, 1) := by decide +kernel
theorem dX4_valueOf_1 : decode cX4_valueOf 1 = .ok (.ifCond .ne 7, 3) := by decide +kernel
theorem dX4_valueOf_4 : decode cX4_valueOf 4 = .ok (.iload_n 1, 1) := by decide +kernel
theorem dX4_valueOf_5 : decode cX4_valueOf 5 = .ok (.goto 9, 3) := by decide +kernel
theorem dX4_valueOf_8 : decode cX4_valueOf 8 = .ok (.aload_n 0, 1) := by decide +kernel
theorem dX4_valueOf_9 : decode cX4_valueOf 9 = .ok (.getfield 35, 3) := by decide +kernel
theorem dX4_valueOf_12 : decode cX4_valueOf 12 = .ok (.iload_n 1, 1) := by decide +kernel
theorem dX4_valueOf_13 : decode cX4_valueOf 13 = .ok (.iaload, 1) := by decide +kernel
theorem dX4_valueOf_14 : decode cX4_valueOf 14 = .ok (.ireturn, 1) := by decide +kernel
theorem dX4_outermost_0 : decode cX4_outermost 0 = .ok (.aload_n 0, 1) := by decide +kernel
theorem dX4_outermost_1 : decode cX4_outermost 1 = .ok (.aload_n 0, 1) := by decide +kernel
theorem dX4_outermost_2 : decode cX4_outermost 2 = .ok (.getfield 24, 3) := by decide +kernel
theorem dX4_outermost_5 : decode cX4_outermost 5 = .ok (.iload_n 1, 1) := by decide +kernel
theorem dX4_outermost_6 : decode cX4_outermost 6 = .ok (.aaload, 1) := by decide +kernel
theorem dX4_outermost_7 : decode cX4_outermost 7 = .ok (.iconst 0, 1) := by decide +kernel
theorem dX4_outermost_8 : decode cX4_outermost 8 = .ok (.invokevirtual 85, 3) := by decide +kernel
theorem dX4_outermost_11 : decode cX4_outermost 11 = .ok (.iload_n 2, 1) := by decide +kernel
theorem dX4_outermost_12 : decode cX4_outermost 12 = .ok (.invokevirtual 123, 3) := by decide +kernel
theorem dX4_outermost_15 : decode cX4_outermost 15 = .ok (.istore 4, 2) := by decide +kernel
theorem dX4_outermost_17 : decode cX4_outermost 17 = .ok (.iconst 1, 1) := by decide +kernel
theorem dX4_outermost_18 : decode cX4_outermost 18 = .ok (.istore 5, 2) := by decide +kernel
theorem dX4_outermost_20 : decode cX4_outermost 20 = .ok (.iload 5, 2) := by decide +kernel
theorem dX4_outermost_22 : decode cX4_outermost 22 = .ok (.aload_n 0, 1) := by decide +kernel
theorem dX4_outermost_23 : decode cX4_outermost 23 = .ok (.getfield 24, 3) := by decide +kernel
theorem dX4_outermost_26 : decode cX4_outermost 26 = .ok (.iload_n 1, 1) := by decide +kernel
theorem dX4_outermost_27 : decode cX4_outermost 27 = .ok (.aaload, 1) := by decide +kernel
theorem dX4_outermost_28 : decode cX4_outermost 28 = .ok (.getfield 43, 3) := by decide +kernel
theorem dX4_outermost_31 : decode cX4_outermost 31 = .ok (.if_icmp .ge 50, 3) := by decide +kernel
theorem dX4_outermost_34 : decode cX4_outermost 34 = .ok (.aload_n 0, 1) := by decide +kernel
theorem dX4_outermost_35 : decode cX4_outermost 35 = .ok (.aload_n 0, 1) := by decide +kernel
theorem dX4_outermost_36 : decode cX4_outermost 36 = .ok (.getfield 24, 3) := by decide +kernel
theorem dX4_outermost_39 : decode cX4_outermost 39 = .ok (.iload_n 1, 1) := by decide +kernel
theorem dX4_outermost_40 : decode cX4_outermost 40 = .ok (.aaload, 1) := by decide +kernel
theorem dX4_outermost_41 : decode cX4_outermost 41 = .ok (.iload 5, 2) := by decide +kernel
theorem dX4_outermost_43 : decode cX4_outermost 43 = .ok (.invokevirtual 85, 3) := by decide +kernel
theorem dX4_outermost_46 : decode cX4_outermost 46 = .ok (.iload_n 2, 1) := by decide +kernel
theorem dX4_outermost_47 : decode cX4_outermost 47 = .ok (.invokevirtual 123, 3) := by decide +kernel
theorem dX4_outermost_50 : decode cX4_outermost 50 = .ok (.istore 6, 2) := by decide +kernel
theorem dX4_outermost_52 : decode cX4_outermost 52 = .ok (.iload_n 3, 1) := by decide +kernel
theorem dX4_outermost_53 : decode cX4_outermost 53 = .ok (.ifCond .eq 13, 3) := by decide +kernel
theorem dX4_outermost_56 : decode cX4_outermost 56 = .ok (.iload 4, 2) := by decide +kernel
theorem dX4_outermost_58 : decode cX4_outermost 58 = .ok (.iload 6, 2) := by decide +kernel
theorem dX4_outermost_60 : decode cX4_outermost 60 = .ok (.invokestatic 127, 3) := by decide +kernel
theorem dX4_outermost_63 : decode cX4_outermost 63 = .ok (.goto 10, 3) := by decide +kernel
theorem dX4_outermost_66 : decode cX4_outermost 66 = .ok (.iload 4, 2) := by decide +kernel
theorem dX4_outermost_68 : decode cX4_outermost 68 = .ok (.iload 6, 2) := by decide +kernel
theorem dX4_outermost_70 : decode cX4_outermost 70 = .ok (.invokestatic 132, 3) := by decide +kernel
theorem dX4_outermost_73 : decode cX4_outermost 73 = .ok (.istore 4, 2) := by decide +kernel
theorem dX4_outermost_75 : decode cX4_outermost 75 = .ok (.iinc 5 1, 3) := by decide +kernel
theorem dX4_outermost_78 : decode cX4_outermost 78 = .ok (.goto (-58), 3) := by decide +kernel
theorem dX4_outermost_81 : decode cX4_outermost 81 = .ok (.iload 4, 2) := by decide +kernel
theorem dX4_outermost_83 : decode cX4_outermost 83 = .ok (.ireturn, 1) := by decide +kernel
theorem dX4_greatest_0 : decode cX4_greatest 0 = .ok (.aload_n 0, 1) := by decide +kernel
theorem dX4_greatest_1 : decode cX4_greatest 1 = .ok (.iload_n 1, 1) := by decide +kernel
theorem dX4_greatest_2 : decode cX4_greatest 2 = .ok (.invokestatic 39, 3) := by decide +kernel
theorem dX4_greatest_5 : decode cX4_greatest 5 = .ok (.iload_n 2, 1) := by decide +kernel
theorem dX4_greatest_6 : decode cX4_greatest 6 = .ok (.invokestatic 135, 3) := by decide +kernel
theorem dX4_greatest_9 : decode cX4_greatest 9 = .ok (.iload_n 1, 1) := by decide +kernel
theorem dX4_greatest_10 : decode cX4_greatest 10 = .ok (.invokestatic 39, 3) := by decide +kernel
theorem dX4_greatest_13 : decode cX4_greatest 13 = .ok (.ifCond .eq 19, 3) := by decide +kernel
theorem dX4_greatest_16 : decode cX4_greatest 16 = .ok (.aload_n 0, 1) := by decide +kernel
theorem dX4_greatest_17 : decode cX4_greatest 17 = .ok (.getfield 24, 3) := by decide +kernel
theorem dX4_greatest_20 : decode cX4_greatest 20 = .ok (.iload_n 1, 1) := by decide +kernel
theorem dX4_greatest_21 : decode cX4_greatest 21 = .ok (.aaload, 1) := by decide +kernel
theorem dX4_greatest_22 : decode cX4_greatest 22 = .ok (.getfield 43, 3) := by decide +kernel
theorem dX4_greatest_25 : decode cX4_greatest 25 = .ok (.ifCond .le 7, 3) := by decide +kernel
theorem dX4_greatest_28 : decode cX4_greatest 28 = .ok (.iconst 1, 1) := by decide +kernel
theorem dX4_greatest_29 : decode cX4_greatest 29 = .ok (.goto 4, 3) := by decide +kernel
theorem dX4_greatest_32 : decode cX4_greatest 32 = .ok (.iconst 0, 1) := by decide +kernel
theorem dX4_greatest_33 : decode cX4_greatest 33 = .ok (.invokevirtual 55, 3) := by decide +kernel
theorem dX4_greatest_36 : decode cX4_greatest 36 = .ok (.ifCond .eq 13, 3) := by decide +kernel
theorem dX4_greatest_39 : decode cX4_greatest 39 = .ok (.aload_n 0, 1) := by decide +kernel
theorem dX4_greatest_40 : decode cX4_greatest 40 = .ok (.iload_n 1, 1) := by decide +kernel
theorem dX4_greatest_41 : decode cX4_greatest 41 = .ok (.iload_n 2, 1) := by decide +kernel
theorem dX4_greatest_42 : decode cX4_greatest 42 = .ok (.iconst 1, 1) := by decide +kernel
theorem dX4_greatest_43 : decode cX4_greatest 43 = .ok (.invokevirtual 138, 3) := by decide +kernel
theorem dX4_greatest_46 : decode cX4_greatest 46 = .ok (.goto 4, 3) := by decide +kernel
theorem dX4_greatest_49 : decode cX4_greatest 49 = .ok (.iconst 0, 1) := by decide +kernel
theorem dX4_greatest_50 : decode cX4_greatest 50 = .ok (.ireturn, 1) := by decide +kernel
theorem dX4_least_0 : decode cX4_least 0 = .ok (.aload_n 0, 1) := by decide +kernel
theorem dX4_least_1 : decode cX4_least 1 = .ok (.iload_n 1, 1) := by decide +kernel
theorem dX4_least_2 : decode cX4_least 2 = .ok (.invokestatic 39, 3) := by decide +kernel
theorem dX4_least_5 : decode cX4_least 5 = .ok (.iload_n 2, 1) := by decide +kernel
theorem dX4_least_6 : decode cX4_least 6 = .ok (.invokestatic 135, 3) := by decide +kernel
theorem dX4_least_9 : decode cX4_least 9 = .ok (.iload_n 1, 1) := by decide +kernel
theorem dX4_least_10 : decode cX4_least 10 = .ok (.invokestatic 39, 3) := by decide +kernel
theorem dX4_least_13 : decode cX4_least 13 = .ok (.ifCond .eq 19, 3) := by decide +kernel
theorem dX4_least_16 : decode cX4_least 16 = .ok (.aload_n 0, 1) := by decide +kernel
theorem dX4_least_17 : decode cX4_least 17 = .ok (.getfield 24, 3) := by decide +kernel
theorem dX4_least_20 : decode cX4_least 20 = .ok (.iload_n 1, 1) := by decide +kernel
theorem dX4_least_21 : decode cX4_least 21 = .ok (.aaload, 1) := by decide +kernel
theorem dX4_least_22 : decode cX4_least 22 = .ok (.getfield 43, 3) := by decide +kernel
theorem dX4_least_25 : decode cX4_least 25 = .ok (.ifCond .le 7, 3) := by decide +kernel
theorem dX4_least_28 : decode cX4_least 28 = .ok (.iconst 1, 1) := by decide +kernel
theorem dX4_least_29 : decode cX4_least 29 = .ok (.goto 4, 3) := by decide +kernel
theorem dX4_least_32 : decode cX4_least 32 = .ok (.iconst 0, 1) := by decide +kernel
theorem dX4_least_33 : decode cX4_least 33 = .ok (.invokevirtual 55, 3) := by decide +kernel
theorem dX4_least_36 : decode cX4_least 36 = .ok (.ifCond .eq 13, 3) := by decide +kernel
theorem dX4_least_39 : decode cX4_least 39 = .ok (.aload_n 0, 1) := by decide +kernel
theorem dX4_least_40 : decode cX4_least 40 = .ok (.iload_n 1, 1) := by decide +kernel
theorem dX4_least_41 : decode cX4_least 41 = .ok (.iload_n 2, 1) := by decide +kernel
theorem dX4_least_42 : decode cX4_least 42 = .ok (.iconst 0, 1) := by decide +kernel
theorem dX4_least_43 : decode cX4_least 43 = .ok (.invokevirtual 138, 3) := by decide +kernel
theorem dX4_least_46 : decode cX4_least 46 = .ok (.goto 4, 3) := by decide +kernel
theorem dX4_least_49 : decode cX4_least 49 = .ok (.iconst 0, 1) := by decide +kernel
theorem dX4_least_50 : decode cX4_least 50 = .ok (.ireturn, 1) := by decide +kernel
theorem dX4_sort_0 : decode cX4_sort 0 = .ok (.aload_n 0, 1) := by decide +kernel
theorem dX4_sort_1 : decode cX4_sort 1 = .ok (.iload_n 1, 1) := by decide +kernel
theorem dX4_sort_2 : decode cX4_sort 2 = .ok (.invokestatic 39, 3) := by decide +kernel
theorem dX4_sort_5 : decode cX4_sort 5 = .ok (.iload_n 2, 1) := by decide +kernel
theorem dX4_sort_6 : decode cX4_sort 6 = .ok (.invokestatic 135, 3) := by decide +kernel
theorem dX4_sort_9 : decode cX4_sort 9 = .ok (.iconst 1, 1) := by decide +kernel
theorem dX4_sort_10 : decode cX4_sort 10 = .ok (.invokevirtual 55, 3) := by decide +kernel
theorem dX4_sort_13 : decode cX4_sort 13 = .ok (.ifCond .ne 5, 3) := by decide +kernel
theorem dX4_sort_16 : decode cX4_sort 16 = .ok (.iconst 0, 1) := by decide +kernel
theorem dX4_sort_17 : decode cX4_sort 17 = .ok (.ireturn, 1) := by decide +kernel
theorem dX4_sort_18 : decode cX4_sort 18 = .ok (.aload_n 0, 1) := by decide +kernel
theorem dX4_sort_19 : decode cX4_sort 19 = .ok (.getfield 24, 3) := by decide +kernel
theorem dX4_sort_22 : decode cX4_sort 22 = .ok (.iload_n 1, 1) := by decide +kernel
theorem dX4_sort_23 : decode cX4_sort 23 = .ok (.aaload, 1) := by decide +kernel
theorem dX4_sort_24 : decode cX4_sort 24 = .ok (.astore 4, 2) := by decide +kernel
theorem dX4_sort_26 : decode cX4_sort 26 = .ok (.aload_n 0, 1) := by decide +kernel
theorem dX4_sort_27 : decode cX4_sort 27 = .ok (.getfield 31, 3) := by decide +kernel
theorem dX4_sort_30 : decode cX4_sort 30 = .ok (.aload 4, 2) := by decide +kernel
theorem dX4_sort_32 : decode cX4_sort 32 = .ok (.invokevirtual 116, 3) := by decide +kernel
theorem dX4_sort_35 : decode cX4_sort 35 = .ok (.iconst 1, 1) := by decide +kernel
theorem dX4_sort_36 : decode cX4_sort 36 = .ok (.istore 5, 2) := by decide +kernel
theorem dX4_sort_38 : decode cX4_sort 38 = .ok (.iload 5, 2) := by decide +kernel
theorem dX4_sort_40 : decode cX4_sort 40 = .ok (.aload 4, 2) := by decide +kernel
theorem dX4_sort_42 : decode cX4_sort 42 = .ok (.getfield 43, 3) := by decide +kernel
theorem dX4_sort_45 : decode cX4_sort 45 = .ok (.if_icmp .ge 100, 3) := by decide +kernel
theorem dX4_sort_48 : decode cX4_sort 48 = .ok (.iload 5, 2) := by decide +kernel
theorem dX4_sort_50 : decode cX4_sort 50 = .ok (.istore 6, 2) := by decide +kernel
theorem dX4_sort_52 : decode cX4_sort 52 = .ok (.iload 6, 2) := by decide +kernel
theorem dX4_sort_54 : decode cX4_sort 54 = .ok (.ifCond .le 85, 3) := by decide +kernel
theorem dX4_sort_57 : decode cX4_sort 57 = .ok (.iload_n 3, 1) := by decide +kernel
theorem dX4_sort_58 : decode cX4_sort 58 = .ok (.ifCond .eq 35, 3) := by decide +kernel
theorem dX4_sort_61 : decode cX4_sort 61 = .ok (.aload_n 0, 1) := by decide +kernel
theorem dX4_sort_62 : decode cX4_sort 62 = .ok (.aload 4, 2) := by decide +kernel
theorem dX4_sort_64 : decode cX4_sort 64 = .ok (.iload 6, 2) := by decide +kernel
theorem dX4_sort_66 : decode cX4_sort 66 = .ok (.iconst 1, 1) := by decide +kernel
theorem dX4_sort_67 : decode cX4_sort 67 = .ok (.isub, 1) := by decide +kernel
theorem dX4_sort_68 : decode cX4_sort 68 = .ok (.invokevirtual 85, 3) := by decide +kernel
theorem dX4_sort_71 : decode cX4_sort 71 = .ok (.iload_n 2, 1) := by decide +kernel
theorem dX4_sort_72 : decode cX4_sort 72 = .ok (.invokevirtual 123, 3) := by decide +kernel
theorem dX4_sort_75 : decode cX4_sort 75 = .ok (.aload_n 0, 1) := by decide +kernel
theorem dX4_sort_76 : decode cX4_sort 76 = .ok (.aload 4, 2) := by decide +kernel
theorem dX4_sort_78 : decode cX4_sort 78 = .ok (.iload 6, 2) := by decide +kernel
theorem dX4_sort_80 : decode cX4_sort 80 = .ok (.invokevirtual 85, 3) := by decide +kernel
theorem dX4_sort_83 : decode cX4_sort 83 = .ok (.iload_n 2, 1) := by decide +kernel
theorem dX4_sort_84 : decode cX4_sort 84 = .ok (.invokevirtual 123, 3) := by decide +kernel
theorem dX4_sort_87 : decode cX4_sort 87 = .ok (.if_icmp .ge 52, 3) := by decide +kernel
theorem dX4_sort_90 : decode cX4_sort 90 = .ok (.goto 32, 3) := by decide +kernel
theorem dX4_sort_93 : decode cX4_sort 93 = .ok (.aload_n 0, 1) := by decide +kernel
theorem dX4_sort_94 : decode cX4_sort 94 = .ok (.aload 4, 2) := by decide +kernel
theorem dX4_sort_96 : decode cX4_sort 96 = .ok (.iload 6, 2) := by decide +kernel
theorem dX4_sort_98 : decode cX4_sort 98 = .ok (.iconst 1, 1) := by decide +kernel
theorem dX4_sort_99 : decode cX4_sort 99 = .ok (.isub, 1) := by decide +kernel
theorem dX4_sort_100 : decode cX4_sort 100 = .ok (.invokevirtual 85, 3) := by decide +kernel
theorem dX4_sort_103 : decode cX4_sort 103 = .ok (.iload_n 2, 1) := by decide +kernel
theorem dX4_sort_104 : decode cX4_sort 104 = .ok (.invokevirtual 123, 3) := by decide +kernel
theorem dX4_sort_107 : decode cX4_sort 107 = .ok (.aload_n 0, 1) := by decide +kernel
theorem dX4_sort_108 : decode cX4_sort 108 = .ok (.aload 4, 2) := by decide +kernel
theorem dX4_sort_110 : decode cX4_sort 110 = .ok (.iload 6, 2) := by decide +kernel
theorem dX4_sort_112 : decode cX4_sort 112 = .ok (.invokevirtual 85, 3) := by decide +kernel
theorem dX4_sort_115 : decode cX4_sort 115 = .ok (.iload_n 2, 1) := by decide +kernel
theorem dX4_sort_116 : decode cX4_sort 116 = .ok (.invokevirtual 123, 3) := by decide +kernel
theorem dX4_sort_119 : decode cX4_sort 119 = .ok (.if_icmp .le 20, 3) := by decide +kernel
theorem dX4_sort_122 : decode cX4_sort 122 = .ok (.aload 4, 2) := by decide +kernel
theorem dX4_sort_124 : decode cX4_sort 124 = .ok (.iload 6, 2) := by decide +kernel
theorem dX4_sort_126 : decode cX4_sort 126 = .ok (.iconst 1, 1) := by decide +kernel
theorem dX4_sort_127 : decode cX4_sort 127 = .ok (.isub, 1) := by decide +kernel
theorem dX4_sort_128 : decode cX4_sort 128 = .ok (.iload 6, 2) := by decide +kernel
theorem dX4_sort_130 : decode cX4_sort 130 = .ok (.invokevirtual 142, 3) := by decide +kernel
theorem dX4_sort_133 : decode cX4_sort 133 = .ok (.iinc 6 (-1), 3) := by decide +kernel
theorem dX4_sort_136 : decode cX4_sort 136 = .ok (.goto (-84), 3) := by decide +kernel
theorem dX4_sort_139 : decode cX4_sort 139 = .ok (.iinc 5 1, 3) := by decide +kernel
theorem dX4_sort_142 : decode cX4_sort 142 = .ok (.goto (-104), 3) := by decide +kernel
theorem dX4_sort_145 : decode cX4_sort 145 = .ok (.aload 4, 2) := by decide +kernel
theorem dX4_sort_147 : decode cX4_sort 147 = .ok (.aload_n 0, 1) := by decide +kernel
theorem dX4_sort_148 : decode cX4_sort 148 = .ok (.getfield 31, 3) := by decide +kernel
theorem dX4_sort_151 : decode cX4_sort 151 = .ok (.invokevirtual 145, 3) := by decide +kernel
theorem dX4_sort_154 : decode cX4_sort 154 = .ok (.ireturn, 1) := by decide +kernel
theorem dX4_areInOrder_0 : decode cX4_areInOrder 0 = .ok (.iconst 1, 1) := by decide +kernel
theorem dX4_areInOrder_1 : decode cX4_areInOrder 1 = .ok (.istore_n 3, 1) := by decide +kernel
theorem dX4_areInOrder_2 : decode cX4_areInOrder 2 = .ok (.iload_n 3, 1) := by decide +kernel
theorem dX4_areInOrder_3 : decode cX4_areInOrder 3 = .ok (.aload_n 1, 1) := by decide +kernel
theorem dX4_areInOrder_4 : decode cX4_areInOrder 4 = .ok (.getfield 43, 3) := by decide +kernel
theorem dX4_areInOrder_7 : decode cX4_areInOrder 7 = .ok (.if_icmp .ge 36, 3) := by decide +kernel
theorem dX4_areInOrder_10 : decode cX4_areInOrder 10 = .ok (.aload_n 0, 1) := by decide +kernel
theorem dX4_areInOrder_11 : decode cX4_areInOrder 11 = .ok (.aload_n 1, 1) := by decide +kernel
theorem dX4_areInOrder_12 : decode cX4_areInOrder 12 = .ok (.iload_n 3, 1) := by decide +kernel
theorem dX4_areInOrder_13 : decode cX4_areInOrder 13 = .ok (.invokevirtual 85, 3) := by decide +kernel
theorem dX4_areInOrder_16 : decode cX4_areInOrder 16 = .ok (.iload_n 2, 1) := by decide +kernel
theorem dX4_areInOrder_17 : decode cX4_areInOrder 17 = .ok (.invokevirtual 123, 3) := by decide +kernel
theorem dX4_areInOrder_20 : decode cX4_areInOrder 20 = .ok (.aload_n 0, 1) := by decide +kernel
theorem dX4_areInOrder_21 : decode cX4_areInOrder 21 = .ok (.aload_n 1, 1) := by decide +kernel
theorem dX4_areInOrder_22 : decode cX4_areInOrder 22 = .ok (.iload_n 3, 1) := by decide +kernel
theorem dX4_areInOrder_23 : decode cX4_areInOrder 23 = .ok (.iconst 1, 1) := by decide +kernel
theorem dX4_areInOrder_24 : decode cX4_areInOrder 24 = .ok (.isub, 1) := by decide +kernel
theorem dX4_areInOrder_25 : decode cX4_areInOrder 25 = .ok (.invokevirtual 85, 3) := by decide +kernel
theorem dX4_areInOrder_28 : decode cX4_areInOrder 28 = .ok (.iload_n 2, 1) := by decide +kernel
theorem dX4_areInOrder_29 : decode cX4_areInOrder 29 = .ok (.invokevirtual 123, 3) := by decide +kernel
theorem dX4_areInOrder_32 : decode cX4_areInOrder 32 = .ok (.if_icmp .ge 5, 3) := by decide +kernel
theorem dX4_areInOrder_35 : decode cX4_areInOrder 35 = .ok (.iconst 0, 1) := by decide +kernel
theorem dX4_areInOrder_36 : decode cX4_areInOrder 36 = .ok (.ireturn, 1) := by decide +kernel
theorem dX4_areInOrder_37 : decode cX4_areInOrder 37 = .ok (.iinc 3 1, 3) := by decide +kernel
theorem dX4_areInOrder_40 : decode cX4_areInOrder 40 = .ok (.goto (-38), 3) := by decide +kernel
theorem dX4_areInOrder_43 : decode cX4_areInOrder 43 = .ok (.iconst 1, 1) := by decide +kernel
theorem dX4_areInOrder_44 : decode cX4_areInOrder 44 = .ok (.ireturn, 1) := by decide +kernel
theorem dX4_isSorted_0 : decode cX4_isSorted 0 = .ok (.aload_n 0, 1) := by decide +kernel
theorem dX4_isSorted_1 : decode cX4_isSorted 1 = .ok (.iload_n 1, 1) := by decide +kernel
theorem dX4_isSorted_2 : decode cX4_isSorted 2 = .ok (.invokestatic 39, 3) := by decide +kernel
theorem dX4_isSorted_5 : decode cX4_isSorted 5 = .ok (.iload_n 2, 1) := by decide +kernel
theorem dX4_isSorted_6 : decode cX4_isSorted 6 = .ok (.invokestatic 135, 3) := by decide +kernel
theorem dX4_isSorted_9 : decode cX4_isSorted 9 = .ok (.iconst 1, 1) := by decide +kernel
theorem dX4_isSorted_10 : decode cX4_isSorted 10 = .ok (.invokevirtual 55, 3) := by decide +kernel
theorem dX4_isSorted_13 : decode cX4_isSorted 13 = .ok (.ifCond .eq 21, 3) := by decide +kernel
theorem dX4_isSorted_16 : decode cX4_isSorted 16 = .ok (.aload_n 0, 1) := by decide +kernel
theorem dX4_isSorted_17 : decode cX4_isSorted 17 = .ok (.aload_n 0, 1) := by decide +kernel
theorem dX4_isSorted_18 : decode cX4_isSorted 18 = .ok (.getfield 24, 3) := by decide +kernel
theorem dX4_isSorted_21 : decode cX4_isSorted 21 = .ok (.iload_n 1, 1) := by decide +kernel
theorem dX4_isSorted_22 : decode cX4_isSorted 22 = .ok (.aaload, 1) := by decide +kernel
theorem dX4_isSorted_23 : decode cX4_isSorted 23 = .ok (.iload_n 2, 1) := by decide +kernel
theorem dX4_isSorted_24 : decode cX4_isSorted 24 = .ok (.invokevirtual 149, 3) := by decide +kernel
theorem dX4_isSorted_27 : decode cX4_isSorted 27 = .ok (.ifCond .eq 7, 3) := by decide +kernel
theorem dX4_isSorted_30 : decode cX4_isSorted 30 = .ok (.iconst 1, 1) := by decide +kernel
theorem dX4_isSorted_31 : decode cX4_isSorted 31 = .ok (.goto 4, 3) := by decide +kernel
theorem dX4_isSorted_34 : decode cX4_isSorted 34 = .ok (.iconst 0, 1) := by decide +kernel
theorem dX4_isSorted_35 : decode cX4_isSorted 35 = .ok (.ireturn, 1) := by decide +kernel
theorem dX4_search_0 : decode cX4_search 0 = .ok (.iload_n 1, 1) := by decide +kernel
theorem dX4_search_1 : decode cX4_search 1 = .ok (.invokestatic 39, 3) := by decide +kernel
theorem dX4_search_4 : decode cX4_search 4 = .ok (.ifCond .eq 14, 3) := by decide +kernel
theorem dX4_search_7 : decode cX4_search 7 = .ok (.iload_n 3, 1) := by decide +kernel
theorem dX4_search_8 : decode cX4_search 8 = .ok (.invokestatic 48, 3) := by decide +kernel
theorem dX4_search_11 : decode cX4_search 11 = .ok (.ifCond .eq 7, 3) := by decide +kernel
theorem dX4_search_14 : decode cX4_search 14 = .ok (.iconst 1, 1) := by decide +kernel
theorem dX4_search_15 : decode cX4_search 15 = .ok (.goto 4, 3) := by decide +kernel
theorem dX4_search_18 : decode cX4_search 18 = .ok (.iconst 0, 1) := by decide +kernel
theorem dX4_search_19 : decode cX4_search 19 = .ok (.istore 4, 2) := by decide +kernel
theorem dX4_search_21 : decode cX4_search 21 = .ok (.aload_n 0, 1) := by decide +kernel
theorem dX4_search_22 : decode cX4_search 22 = .ok (.iload 4, 2) := by decide +kernel
theorem dX4_search_24 : decode cX4_search 24 = .ok (.iload_n 2, 1) := by decide +kernel
theorem dX4_search_25 : decode cX4_search 25 = .ok (.invokestatic 135, 3) := by decide +kernel
theorem dX4_search_28 : decode cX4_search 28 = .ok (.iload 4, 2) := by decide +kernel
theorem dX4_search_30 : decode cX4_search 30 = .ok (.ifCond .eq 28, 3) := by decide +kernel
theorem dX4_search_33 : decode cX4_search 33 = .ok (.iload_n 2, 1) := by decide +kernel
theorem dX4_search_34 : decode cX4_search 34 = .ok (.invokestatic 135, 3) := by decide +kernel
theorem dX4_search_37 : decode cX4_search 37 = .ok (.ifCond .eq 21, 3) := by decide +kernel
theorem dX4_search_40 : decode cX4_search 40 = .ok (.aload_n 0, 1) := by decide +kernel
theorem dX4_search_41 : decode cX4_search 41 = .ok (.aload_n 0, 1) := by decide +kernel
theorem dX4_search_42 : decode cX4_search 42 = .ok (.getfield 24, 3) := by decide +kernel
theorem dX4_search_45 : decode cX4_search 45 = .ok (.iload_n 1, 1) := by decide +kernel
theorem dX4_search_46 : decode cX4_search 46 = .ok (.aaload, 1) := by decide +kernel
theorem dX4_search_47 : decode cX4_search 47 = .ok (.iload_n 2, 1) := by decide +kernel
theorem dX4_search_48 : decode cX4_search 48 = .ok (.invokevirtual 149, 3) := by decide +kernel
theorem dX4_search_51 : decode cX4_search 51 = .ok (.ifCond .eq 7, 3) := by decide +kernel
theorem dX4_search_54 : decode cX4_search 54 = .ok (.iconst 1, 1) := by decide +kernel
theorem dX4_search_55 : decode cX4_search 55 = .ok (.goto 4, 3) := by decide +kernel
theorem dX4_search_58 : decode cX4_search 58 = .ok (.iconst 0, 1) := by decide +kernel
theorem dX4_search_59 : decode cX4_search 59 = .ok (.invokevirtual 55, 3) := by decide +kernel
theorem dX4_search_62 : decode cX4_search 62 = .ok (.ifCond .ne 5, 3) := by decide +kernel
theorem dX4_search_65 : decode cX4_search 65 = .ok (.iconst 0, 1) := by decide +kernel
theorem dX4_search_66 : decode cX4_search 66 = .ok (.ireturn, 1) := by decide +kernel
theorem dX4_search_67 : decode cX4_search 67 = .ok (.iconst 0, 1) := by decide +kernel
theorem dX4_search_68 : decode cX4_search 68 = .ok (.istore 5, 2) := by decide +kernel
theorem dX4_search_70 : decode cX4_search 70 = .ok (.iconst 0, 1) := by decide +kernel
theorem dX4_search_71 : decode cX4_search 71 = .ok (.istore 6, 2) := by decide +kernel
theorem dX4_search_73 : decode cX4_search 73 = .ok (.iload 6, 2) := by decide +kernel
theorem dX4_search_75 : decode cX4_search 75 = .ok (.aload_n 0, 1) := by decide +kernel
theorem dX4_search_76 : decode cX4_search 76 = .ok (.getfield 24, 3) := by decide +kernel
theorem dX4_search_79 : decode cX4_search 79 = .ok (.iload_n 1, 1) := by decide +kernel
theorem dX4_search_80 : decode cX4_search 80 = .ok (.aaload, 1) := by decide +kernel
theorem dX4_search_81 : decode cX4_search 81 = .ok (.getfield 43, 3) := by decide +kernel
theorem dX4_search_84 : decode cX4_search 84 = .ok (.if_icmp .ge 62, 3) := by decide +kernel
theorem dX4_search_87 : decode cX4_search 87 = .ok (.aload_n 0, 1) := by decide +kernel
theorem dX4_search_88 : decode cX4_search 88 = .ok (.aload_n 0, 1) := by decide +kernel
theorem dX4_search_89 : decode cX4_search 89 = .ok (.getfield 24, 3) := by decide +kernel
theorem dX4_search_92 : decode cX4_search 92 = .ok (.iload_n 1, 1) := by decide +kernel
theorem dX4_search_93 : decode cX4_search 93 = .ok (.aaload, 1) := by decide +kernel
theorem dX4_search_94 : decode cX4_search 94 = .ok (.iload 6, 2) := by decide +kernel
theorem dX4_search_96 : decode cX4_search 96 = .ok (.invokevirtual 85, 3) := by decide +kernel
theorem dX4_search_99 : decode cX4_search 99 = .ok (.iload_n 2, 1) := by decide +kernel
theorem dX4_search_100 : decode cX4_search 100 = .ok (.invokevirtual 123, 3) := by decide +kernel
theorem dX4_search_103 : decode cX4_search 103 = .ok (.istore 7, 2) := by decide +kernel
theorem dX4_search_105 : decode cX4_search 105 = .ok (.iload 7, 2) := by decide +kernel
theorem dX4_search_107 : decode cX4_search 107 = .ok (.aload_n 0, 1) := by decide +kernel
theorem dX4_search_108 : decode cX4_search 108 = .ok (.iload_n 3, 1) := by decide +kernel
theorem dX4_search_109 : decode cX4_search 109 = .ok (.iload_n 2, 1) := by decide +kernel
theorem dX4_search_110 : decode cX4_search 110 = .ok (.invokevirtual 123, 3) := by decide +kernel
theorem dX4_search_113 : decode cX4_search 113 = .ok (.if_icmp .ne 6, 3) := by decide +kernel
theorem dX4_search_116 : decode cX4_search 116 = .ok (.bipush (-2), 2) := by decide +kernel
theorem dX4_search_118 : decode cX4_search 118 = .ok (.ireturn, 1) := by decide +kernel
theorem dX4_search_119 : decode cX4_search 119 = .ok (.iload 5, 2) := by decide +kernel
theorem dX4_search_121 : decode cX4_search 121 = .ok (.iload 7, 2) := by decide +kernel
theorem dX4_search_123 : decode cX4_search 123 = .ok (.aload_n 0, 1) := by decide +kernel
theorem dX4_search_124 : decode cX4_search 124 = .ok (.iload_n 3, 1) := by decide +kernel
theorem dX4_search_125 : decode cX4_search 125 = .ok (.iload_n 2, 1) := by decide +kernel
theorem dX4_search_126 : decode cX4_search 126 = .ok (.invokevirtual 123, 3) := by decide +kernel
theorem dX4_search_129 : decode cX4_search 129 = .ok (.if_icmp .ge 7, 3) := by decide +kernel
theorem dX4_search_132 : decode cX4_search 132 = .ok (.iconst 1, 1) := by decide +kernel
theorem dX4_search_133 : decode cX4_search 133 = .ok (.goto 4, 3) := by decide +kernel
theorem dX4_search_136 : decode cX4_search 136 = .ok (.iconst 0, 1) := by decide +kernel
theorem dX4_search_137 : decode cX4_search 137 = .ok (.iadd, 1) := by decide +kernel
theorem dX4_search_138 : decode cX4_search 138 = .ok (.istore 5, 2) := by decide +kernel
theorem dX4_search_140 : decode cX4_search 140 = .ok (.iinc 6 1, 3) := by decide +kernel
theorem dX4_search_143 : decode cX4_search 143 = .ok (.goto (-70), 3) := by decide +kernel
theorem dX4_search_146 : decode cX4_search 146 = .ok (.iload 5, 2) := by decide +kernel
theorem dX4_search_148 : decode cX4_search 148 = .ok (.ireturn, 1) := by decide +kernel
theorem dX4_turn_0 : decode cX4_turn 0 = .ok (.aload_n 0, 1) := by decide +kernel
theorem dX4_turn_1 : decode cX4_turn 1 = .ok (.aload_n 0, 1) := by decide +kernel
theorem dX4_turn_2 : decode cX4_turn 2 = .ok (.iload_n 1, 1) := by decide +kernel
theorem dX4_turn_3 : decode cX4_turn 3 = .ok (.iload_n 2, 1) := by decide +kernel
theorem dX4_turn_4 : decode cX4_turn 4 = .ok (.iload_n 3, 1) := by decide +kernel
theorem dX4_turn_5 : decode cX4_turn 5 = .ok (.invokevirtual 73, 3) := by decide +kernel
theorem dX4_turn_8 : decode cX4_turn 8 = .ok (.iconst 1, 1) := by decide +kernel
theorem dX4_turn_9 : decode cX4_turn 9 = .ok (.iconst 1, 1) := by decide +kernel
theorem dX4_turn_10 : decode cX4_turn 10 = .ok (.invokevirtual 55, 3) := by decide +kernel
theorem dX4_turn_13 : decode cX4_turn 13 = .ok (.ifCond .ne 5, 3) := by decide +kernel
theorem dX4_turn_16 : decode cX4_turn 16 = .ok (.iconst 0, 1) := by decide +kernel
theorem dX4_turn_17 : decode cX4_turn 17 = .ok (.ireturn, 1) := by decide +kernel
theorem dX4_turn_18 : decode cX4_turn 18 = .ok (.iconst 0, 1) := by decide +kernel
theorem dX4_turn_19 : decode cX4_turn 19 = .ok (.istore 4, 2) := by decide +kernel
theorem dX4_turn_21 : decode cX4_turn 21 = .ok (.iload 4, 2) := by decide +kernel
theorem dX4_turn_23 : decode cX4_turn 23 = .ok (.iload_n 3, 1) := by decide +kernel
theorem dX4_turn_24 : decode cX4_turn 24 = .ok (.iload_n 2, 1) := by decide +kernel
theorem dX4_turn_25 : decode cX4_turn 25 = .ok (.isub, 1) := by decide +kernel
theorem dX4_turn_26 : decode cX4_turn 26 = .ok (.iconst 2, 1) := by decide +kernel
theorem dX4_turn_27 : decode cX4_turn 27 = .ok (.idiv, 1) := by decide +kernel
theorem dX4_turn_28 : decode cX4_turn 28 = .ok (.if_icmp .ge 28, 3) := by decide +kernel
theorem dX4_turn_31 : decode cX4_turn 31 = .ok (.aload_n 0, 1) := by decide +kernel
theorem dX4_turn_32 : decode cX4_turn 32 = .ok (.getfield 24, 3) := by decide +kernel
theorem dX4_turn_35 : decode cX4_turn 35 = .ok (.iload_n 1, 1) := by decide +kernel
theorem dX4_turn_36 : decode cX4_turn 36 = .ok (.aaload, 1) := by decide +kernel
theorem dX4_turn_37 : decode cX4_turn 37 = .ok (.iload_n 2, 1) := by decide +kernel
theorem dX4_turn_38 : decode cX4_turn 38 = .ok (.iload 4, 2) := by decide +kernel
theorem dX4_turn_40 : decode cX4_turn 40 = .ok (.iadd, 1) := by decide +kernel
theorem dX4_turn_41 : decode cX4_turn 41 = .ok (.iload_n 3, 1) := by decide +kernel
theorem dX4_turn_42 : decode cX4_turn 42 = .ok (.iconst 1, 1) := by decide +kernel
theorem dX4_turn_43 : decode cX4_turn 43 = .ok (.isub, 1) := by decide +kernel
theorem dX4_turn_44 : decode cX4_turn 44 = .ok (.iload 4, 2) := by decide +kernel
theorem dX4_turn_46 : decode cX4_turn 46 = .ok (.isub, 1) := by decide +kernel
theorem dX4_turn_47 : decode cX4_turn 47 = .ok (.invokevirtual 142, 3) := by decide +kernel
theorem dX4_turn_50 : decode cX4_turn 50 = .ok (.iinc 4 1, 3) := by decide +kernel
theorem dX4_turn_53 : decode cX4_turn 53 = .ok (.goto (-32), 3) := by decide +kernel
theorem dX4_turn_56 : decode cX4_turn 56 = .ok (.iload_n 3, 1) := by decide +kernel
theorem dX4_turn_57 : decode cX4_turn 57 = .ok (.iload_n 2, 1) := by decide +kernel
theorem dX4_turn_58 : decode cX4_turn 58 = .ok (.isub, 1) := by decide +kernel
theorem dX4_turn_59 : decode cX4_turn 59 = .ok (.ireturn, 1) := by decide +kernel
theorem dX4_move_0 : decode cX4_move 0 = .ok (.aload_n 0, 1) := by decide +kernel
theorem dX4_move_1 : decode cX4_move 1 = .ok (.aload_n 0, 1) := by decide +kernel
theorem dX4_move_2 : decode cX4_move 2 = .ok (.iload_n 1, 1) := by decide +kernel
theorem dX4_move_3 : decode cX4_move 3 = .ok (.iload_n 2, 1) := by decide +kernel
theorem dX4_move_4 : decode cX4_move 4 = .ok (.iload_n 3, 1) := by decide +kernel
theorem dX4_move_5 : decode cX4_move 5 = .ok (.invokevirtual 73, 3) := by decide +kernel
theorem dX4_move_8 : decode cX4_move 8 = .ok (.iconst 1, 1) := by decide +kernel
theorem dX4_move_9 : decode cX4_move 9 = .ok (.iconst 1, 1) := by decide +kernel
theorem dX4_move_10 : decode cX4_move 10 = .ok (.invokevirtual 55, 3) := by decide +kernel
theorem dX4_move_13 : decode cX4_move 13 = .ok (.ifCond .eq 8, 3) := by decide +kernel
theorem dX4_move_16 : decode cX4_move 16 = .ok (.iload_n 2, 1) := by decide +kernel
theorem dX4_move_17 : decode cX4_move 17 = .ok (.iload_n 3, 1) := by decide +kernel
theorem dX4_move_18 : decode cX4_move 18 = .ok (.if_icmp .ne 5, 3) := by decide +kernel
theorem dX4_move_21 : decode cX4_move 21 = .ok (.iconst 0, 1) := by decide +kernel
theorem dX4_move_22 : decode cX4_move 22 = .ok (.ireturn, 1) := by decide +kernel
theorem dX4_move_23 : decode cX4_move 23 = .ok (.iload_n 3, 1) := by decide +kernel
theorem dX4_move_24 : decode cX4_move 24 = .ok (.iload_n 2, 1) := by decide +kernel
theorem dX4_move_25 : decode cX4_move 25 = .ok (.isub, 1) := by decide +kernel
theorem dX4_move_26 : decode cX4_move 26 = .ok (.istore 5, 2) := by decide +kernel
theorem dX4_move_28 : decode cX4_move 28 = .ok (.iload 4, 2) := by decide +kernel
theorem dX4_move_30 : decode cX4_move 30 = .ok (.iload 5, 2) := by decide +kernel
theorem dX4_move_32 : decode cX4_move 32 = .ok (.irem, 1) := by decide +kernel
theorem dX4_move_33 : decode cX4_move 33 = .ok (.iload 5, 2) := by decide +kernel
theorem dX4_move_35 : decode cX4_move 35 = .ok (.iadd, 1) := by decide +kernel
theorem dX4_move_36 : decode cX4_move 36 = .ok (.iload 5, 2) := by decide +kernel
theorem dX4_move_38 : decode cX4_move 38 = .ok (.irem, 1) := by decide +kernel
theorem dX4_move_39 : decode cX4_move 39 = .ok (.istore 6, 2) := by decide +kernel
theorem dX4_move_41 : decode cX4_move 41 = .ok (.aload_n 0, 1) := by decide +kernel
theorem dX4_move_42 : decode cX4_move 42 = .ok (.getfield 31, 3) := by decide +kernel
theorem dX4_move_45 : decode cX4_move 45 = .ok (.aload_n 0, 1) := by decide +kernel
theorem dX4_move_46 : decode cX4_move 46 = .ok (.getfield 24, 3) := by decide +kernel
theorem dX4_move_49 : decode cX4_move 49 = .ok (.iload_n 1, 1) := by decide +kernel
theorem dX4_move_50 : decode cX4_move 50 = .ok (.aaload, 1) := by decide +kernel
theorem dX4_move_51 : decode cX4_move 51 = .ok (.invokevirtual 116, 3) := by decide +kernel
theorem dX4_move_54 : decode cX4_move 54 = .ok (.iconst 0, 1) := by decide +kernel
theorem dX4_move_55 : decode cX4_move 55 = .ok (.istore 7, 2) := by decide +kernel
theorem dX4_move_57 : decode cX4_move 57 = .ok (.iload 7, 2) := by decide +kernel
theorem dX4_move_59 : decode cX4_move 59 = .ok (.iload 5, 2) := by decide +kernel
theorem dX4_move_61 : decode cX4_move 61 = .ok (.if_icmp .ge 40, 3) := by decide +kernel
theorem dX4_move_64 : decode cX4_move 64 = .ok (.aload_n 0, 1) := by decide +kernel
theorem dX4_move_65 : decode cX4_move 65 = .ok (.getfield 24, 3) := by decide +kernel
theorem dX4_move_68 : decode cX4_move 68 = .ok (.iload_n 1, 1) := by decide +kernel
theorem dX4_move_69 : decode cX4_move 69 = .ok (.aaload, 1) := by decide +kernel
theorem dX4_move_70 : decode cX4_move 70 = .ok (.getfield 89, 3) := by decide +kernel
theorem dX4_move_73 : decode cX4_move 73 = .ok (.iload_n 2, 1) := by decide +kernel
theorem dX4_move_74 : decode cX4_move 74 = .ok (.iload 7, 2) := by decide +kernel
theorem dX4_move_76 : decode cX4_move 76 = .ok (.iload 6, 2) := by decide +kernel
theorem dX4_move_78 : decode cX4_move 78 = .ok (.iadd, 1) := by decide +kernel
theorem dX4_move_79 : decode cX4_move 79 = .ok (.iload 5, 2) := by decide +kernel
theorem dX4_move_81 : decode cX4_move 81 = .ok (.irem, 1) := by decide +kernel
theorem dX4_move_82 : decode cX4_move 82 = .ok (.iadd, 1) := by decide +kernel
theorem dX4_move_83 : decode cX4_move 83 = .ok (.aload_n 0, 1) := by decide +kernel
theorem dX4_move_84 : decode cX4_move 84 = .ok (.getfield 31, 3) := by decide +kernel
theorem dX4_move_87 : decode cX4_move 87 = .ok (.iload_n 2, 1) := by decide +kernel
theorem dX4_move_88 : decode cX4_move 88 = .ok (.iload 7, 2) := by decide +kernel
theorem dX4_move_90 : decode cX4_move 90 = .ok (.iadd, 1) := by decide +kernel
theorem dX4_move_91 : decode cX4_move 91 = .ok (.invokevirtual 85, 3) := by decide +kernel
theorem dX4_move_94 : decode cX4_move 94 = .ok (.iastore, 1) := by decide +kernel
theorem dX4_move_95 : decode cX4_move 95 = .ok (.iinc 7 1, 3) := by decide +kernel
theorem dX4_move_98 : decode cX4_move 98 = .ok (.goto (-41), 3) := by decide +kernel
theorem dX4_move_101 : decode cX4_move 101 = .ok (.iload 6, 2) := by decide +kernel
theorem dX4_move_103 : decode cX4_move 103 = .ok (.ireturn, 1) := by decide +kernel
theorem dX4_swap_0 : decode cX4_swap 0 = .ok (.aload_n 0, 1) := by decide +kernel
theorem dX4_swap_1 : decode cX4_swap 1 = .ok (.aload_n 0, 1) := by decide +kernel
theorem dX4_swap_2 : decode cX4_swap 2 = .ok (.iload_n 1, 1) := by decide +kernel
theorem dX4_swap_3 : decode cX4_swap 3 = .ok (.iload_n 2, 1) := by decide +kernel
theorem dX4_swap_4 : decode cX4_swap 4 = .ok (.invokevirtual 81, 3) := by decide +kernel
theorem dX4_swap_7 : decode cX4_swap 7 = .ok (.ifCond .eq 16, 3) := by decide +kernel
theorem dX4_swap_10 : decode cX4_swap 10 = .ok (.aload_n 0, 1) := by decide +kernel
theorem dX4_swap_11 : decode cX4_swap 11 = .ok (.iload_n 1, 1) := by decide +kernel
theorem dX4_swap_12 : decode cX4_swap 12 = .ok (.iload_n 3, 1) := by decide +kernel
theorem dX4_swap_13 : decode cX4_swap 13 = .ok (.invokevirtual 81, 3) := by decide +kernel
theorem dX4_swap_16 : decode cX4_swap 16 = .ok (.ifCond .eq 7, 3) := by decide +kernel
theorem dX4_swap_19 : decode cX4_swap 19 = .ok (.iconst 1, 1) := by decide +kernel
theorem dX4_swap_20 : decode cX4_swap 20 = .ok (.goto 4, 3) := by decide +kernel
theorem dX4_swap_23 : decode cX4_swap 23 = .ok (.iconst 0, 1) := by decide +kernel
theorem dX4_swap_24 : decode cX4_swap 24 = .ok (.iconst 1, 1) := by decide +kernel
theorem dX4_swap_25 : decode cX4_swap 25 = .ok (.iconst 1, 1) := by decide +kernel
theorem dX4_swap_26 : decode cX4_swap 26 = .ok (.invokevirtual 55, 3) := by decide +kernel
theorem dX4_swap_29 : decode cX4_swap 29 = .ok (.ifCond .ne 5, 3) := by decide +kernel
theorem dX4_swap_32 : decode cX4_swap 32 = .ok (.iconst 0, 1) := by decide +kernel
theorem dX4_swap_33 : decode cX4_swap 33 = .ok (.ireturn, 1) := by decide +kernel
theorem dX4_swap_34 : decode cX4_swap 34 = .ok (.aload_n 0, 1) := by decide +kernel
theorem dX4_swap_35 : decode cX4_swap 35 = .ok (.getfield 24, 3) := by decide +kernel
theorem dX4_swap_38 : decode cX4_swap 38 = .ok (.iload_n 1, 1) := by decide +kernel
theorem dX4_swap_39 : decode cX4_swap 39 = .ok (.aaload, 1) := by decide +kernel
theorem dX4_swap_40 : decode cX4_swap 40 = .ok (.iload_n 2, 1) := by decide +kernel
theorem dX4_swap_41 : decode cX4_swap 41 = .ok (.iload_n 3, 1) := by decide +kernel
theorem dX4_swap_42 : decode cX4_swap 42 = .ok (.invokevirtual 142, 3) := by decide +kernel
theorem dX4_swap_45 : decode cX4_swap 45 = .ok (.aload_n 0, 1) := by decide +kernel
theorem dX4_swap_46 : decode cX4_swap 46 = .ok (.getfield 24, 3) := by decide +kernel
theorem dX4_swap_49 : decode cX4_swap 49 = .ok (.iload_n 1, 1) := by decide +kernel
theorem dX4_swap_50 : decode cX4_swap 50 = .ok (.aaload, 1) := by decide +kernel
theorem dX4_swap_51 : decode cX4_swap 51 = .ok (.iload_n 2, 1) := by decide +kernel
theorem dX4_swap_52 : decode cX4_swap 52 = .ok (.invokevirtual 85, 3) := by decide +kernel
theorem dX4_swap_55 : decode cX4_swap 55 = .ok (.ireturn, 1) := by decide +kernel
theorem dX4_fill_0 : decode cX4_fill 0 = .ok (.aload_n 0, 1) := by decide +kernel
theorem dX4_fill_1 : decode cX4_fill 1 = .ok (.aload_n 0, 1) := by decide +kernel
theorem dX4_fill_2 : decode cX4_fill 2 = .ok (.iload_n 1, 1) := by decide +kernel
theorem dX4_fill_3 : decode cX4_fill 3 = .ok (.iload_n 2, 1) := by decide +kernel
theorem dX4_fill_4 : decode cX4_fill 4 = .ok (.iload_n 3, 1) := by decide +kernel
theorem dX4_fill_5 : decode cX4_fill 5 = .ok (.invokevirtual 73, 3) := by decide +kernel
theorem dX4_fill_8 : decode cX4_fill 8 = .ok (.ifCond .eq 15, 3) := by decide +kernel
theorem dX4_fill_11 : decode cX4_fill 11 = .ok (.iload 4, 2) := by decide +kernel
theorem dX4_fill_13 : decode cX4_fill 13 = .ok (.invokestatic 48, 3) := by decide +kernel
theorem dX4_fill_16 : decode cX4_fill 16 = .ok (.ifCond .eq 7, 3) := by decide +kernel
theorem dX4_fill_19 : decode cX4_fill 19 = .ok (.iconst 1, 1) := by decide +kernel
theorem dX4_fill_20 : decode cX4_fill 20 = .ok (.goto 4, 3) := by decide +kernel
theorem dX4_fill_23 : decode cX4_fill 23 = .ok (.iconst 0, 1) := by decide +kernel
theorem dX4_fill_24 : decode cX4_fill 24 = .ok (.iconst 1, 1) := by decide +kernel
theorem dX4_fill_25 : decode cX4_fill 25 = .ok (.iconst 1, 1) := by decide +kernel
theorem dX4_fill_26 : decode cX4_fill 26 = .ok (.invokevirtual 55, 3) := by decide +kernel
theorem dX4_fill_29 : decode cX4_fill 29 = .ok (.ifCond .ne 5, 3) := by decide +kernel
theorem dX4_fill_32 : decode cX4_fill 32 = .ok (.iconst 0, 1) := by decide +kernel
theorem dX4_fill_33 : decode cX4_fill 33 = .ok (.ireturn, 1) := by decide +kernel
theorem dX4_fill_34 : decode cX4_fill 34 = .ok (.iconst 0, 1) := by decide +kernel
theorem dX4_fill_35 : decode cX4_fill 35 = .ok (.istore 5, 2) := by decide +kernel
theorem dX4_fill_37 : decode cX4_fill 37 = .ok (.iload_n 2, 1) := by decide +kernel
theorem dX4_fill_38 : decode cX4_fill 38 = .ok (.istore 6, 2) := by decide +kernel
theorem dX4_fill_40 : decode cX4_fill 40 = .ok (.iload 6, 2) := by decide +kernel
theorem dX4_fill_42 : decode cX4_fill 42 = .ok (.iload_n 3, 1) := by decide +kernel
theorem dX4_fill_43 : decode cX4_fill 43 = .ok (.if_icmp .ge 49, 3) := by decide +kernel
theorem dX4_fill_46 : decode cX4_fill 46 = .ok (.iload 5, 2) := by decide +kernel
theorem dX4_fill_48 : decode cX4_fill 48 = .ok (.aload_n 0, 1) := by decide +kernel
theorem dX4_fill_49 : decode cX4_fill 49 = .ok (.getfield 24, 3) := by decide +kernel
theorem dX4_fill_52 : decode cX4_fill 52 = .ok (.iload_n 1, 1) := by decide +kernel
theorem dX4_fill_53 : decode cX4_fill 53 = .ok (.aaload, 1) := by decide +kernel
theorem dX4_fill_54 : decode cX4_fill 54 = .ok (.iload 6, 2) := by decide +kernel
theorem dX4_fill_56 : decode cX4_fill 56 = .ok (.invokevirtual 85, 3) := by decide +kernel
theorem dX4_fill_59 : decode cX4_fill 59 = .ok (.iload 4, 2) := by decide +kernel
theorem dX4_fill_61 : decode cX4_fill 61 = .ok (.if_icmp .ne 7, 3) := by decide +kernel
theorem dX4_fill_64 : decode cX4_fill 64 = .ok (.iconst 0, 1) := by decide +kernel
theorem dX4_fill_65 : decode cX4_fill 65 = .ok (.goto 4, 3) := by decide +kernel
theorem dX4_fill_68 : decode cX4_fill 68 = .ok (.iconst 1, 1) := by decide +kernel
theorem dX4_fill_69 : decode cX4_fill 69 = .ok (.iadd, 1) := by decide +kernel
theorem dX4_fill_70 : decode cX4_fill 70 = .ok (.istore 5, 2) := by decide +kernel
theorem dX4_fill_72 : decode cX4_fill 72 = .ok (.aload_n 0, 1) := by decide +kernel
theorem dX4_fill_73 : decode cX4_fill 73 = .ok (.getfield 24, 3) := by decide +kernel
theorem dX4_fill_76 : decode cX4_fill 76 = .ok (.iload_n 1, 1) := by decide +kernel
theorem dX4_fill_77 : decode cX4_fill 77 = .ok (.aaload, 1) := by decide +kernel
theorem dX4_fill_78 : decode cX4_fill 78 = .ok (.getfield 89, 3) := by decide +kernel
theorem dX4_fill_81 : decode cX4_fill 81 = .ok (.iload 6, 2) := by decide +kernel
theorem dX4_fill_83 : decode cX4_fill 83 = .ok (.iload 4, 2) := by decide +kernel
theorem dX4_fill_85 : decode cX4_fill 85 = .ok (.iastore, 1) := by decide +kernel
theorem dX4_fill_86 : decode cX4_fill 86 = .ok (.iinc 6 1, 3) := by decide +kernel
theorem dX4_fill_89 : decode cX4_fill 89 = .ok (.goto (-49), 3) := by decide +kernel
theorem dX4_fill_92 : decode cX4_fill 92 = .ok (.iload 5, 2) := by decide +kernel
theorem dX4_fill_94 : decode cX4_fill 94 = .ok (.ireturn, 1) := by decide +kernel
theorem dX4_copy_0 : decode cX4_copy 0 = .ok (.iload_n 1, 1) := by decide +kernel
theorem dX4_copy_1 : decode cX4_copy 1 = .ok (.invokestatic 39, 3) := by decide +kernel
theorem dX4_copy_4 : decode cX4_copy 4 = .ok (.ifCond .eq 14, 3) := by decide +kernel
theorem dX4_copy_7 : decode cX4_copy 7 = .ok (.iload_n 2, 1) := by decide +kernel
theorem dX4_copy_8 : decode cX4_copy 8 = .ok (.invokestatic 39, 3) := by decide +kernel
theorem dX4_copy_11 : decode cX4_copy 11 = .ok (.ifCond .eq 7, 3) := by decide +kernel
theorem dX4_copy_14 : decode cX4_copy 14 = .ok (.iconst 1, 1) := by decide +kernel
theorem dX4_copy_15 : decode cX4_copy 15 = .ok (.goto 4, 3) := by decide +kernel
theorem dX4_copy_18 : decode cX4_copy 18 = .ok (.iconst 0, 1) := by decide +kernel
theorem dX4_copy_19 : decode cX4_copy 19 = .ok (.istore_n 3, 1) := by decide +kernel
theorem dX4_copy_20 : decode cX4_copy 20 = .ok (.aload_n 0, 1) := by decide +kernel
theorem dX4_copy_21 : decode cX4_copy 21 = .ok (.iload_n 3, 1) := by decide +kernel
theorem dX4_copy_22 : decode cX4_copy 22 = .ok (.iload_n 3, 1) := by decide +kernel
theorem dX4_copy_23 : decode cX4_copy 23 = .ok (.ifCond .eq 28, 3) := by decide +kernel
theorem dX4_copy_26 : decode cX4_copy 26 = .ok (.aload_n 0, 1) := by decide +kernel
theorem dX4_copy_27 : decode cX4_copy 27 = .ok (.getfield 24, 3) := by decide +kernel
theorem dX4_copy_30 : decode cX4_copy 30 = .ok (.iload_n 2, 1) := by decide +kernel
theorem dX4_copy_31 : decode cX4_copy 31 = .ok (.aaload, 1) := by decide +kernel
theorem dX4_copy_32 : decode cX4_copy 32 = .ok (.getfield 43, 3) := by decide +kernel
theorem dX4_copy_35 : decode cX4_copy 35 = .ok (.aload_n 0, 1) := by decide +kernel
theorem dX4_copy_36 : decode cX4_copy 36 = .ok (.getfield 24, 3) := by decide +kernel
theorem dX4_copy_39 : decode cX4_copy 39 = .ok (.iload_n 1, 1) := by decide +kernel
theorem dX4_copy_40 : decode cX4_copy 40 = .ok (.aaload, 1) := by decide +kernel
theorem dX4_copy_41 : decode cX4_copy 41 = .ok (.getfield 43, 3) := by decide +kernel
theorem dX4_copy_44 : decode cX4_copy 44 = .ok (.if_icmp .lt 7, 3) := by decide +kernel
theorem dX4_copy_47 : decode cX4_copy 47 = .ok (.iconst 1, 1) := by decide +kernel
theorem dX4_copy_48 : decode cX4_copy 48 = .ok (.goto 4, 3) := by decide +kernel
theorem dX4_copy_51 : decode cX4_copy 51 = .ok (.iconst 0, 1) := by decide +kernel
theorem dX4_copy_52 : decode cX4_copy 52 = .ok (.iconst 1, 1) := by decide +kernel
theorem dX4_copy_53 : decode cX4_copy 53 = .ok (.invokevirtual 55, 3) := by decide +kernel
theorem dX4_copy_56 : decode cX4_copy 56 = .ok (.ifCond .ne 5, 3) := by decide +kernel
theorem dX4_copy_59 : decode cX4_copy 59 = .ok (.iconst 0, 1) := by decide +kernel
theorem dX4_copy_60 : decode cX4_copy 60 = .ok (.ireturn, 1) := by decide +kernel
theorem dX4_copy_61 : decode cX4_copy 61 = .ok (.iconst 0, 1) := by decide +kernel
theorem dX4_copy_62 : decode cX4_copy 62 = .ok (.istore 4, 2) := by decide +kernel
theorem dX4_copy_64 : decode cX4_copy 64 = .ok (.iload 4, 2) := by decide +kernel
theorem dX4_copy_66 : decode cX4_copy 66 = .ok (.aload_n 0, 1) := by decide +kernel
theorem dX4_copy_67 : decode cX4_copy 67 = .ok (.getfield 24, 3) := by decide +kernel
theorem dX4_copy_70 : decode cX4_copy 70 = .ok (.iload_n 1, 1) := by decide +kernel
theorem dX4_copy_71 : decode cX4_copy 71 = .ok (.aaload, 1) := by decide +kernel
theorem dX4_copy_72 : decode cX4_copy 72 = .ok (.getfield 43, 3) := by decide +kernel
theorem dX4_copy_75 : decode cX4_copy 75 = .ok (.if_icmp .ge 32, 3) := by decide +kernel
theorem dX4_copy_78 : decode cX4_copy 78 = .ok (.aload_n 0, 1) := by decide +kernel
theorem dX4_copy_79 : decode cX4_copy 79 = .ok (.getfield 24, 3) := by decide +kernel
theorem dX4_copy_82 : decode cX4_copy 82 = .ok (.iload_n 2, 1) := by decide +kernel
theorem dX4_copy_83 : decode cX4_copy 83 = .ok (.aaload, 1) := by decide +kernel
theorem dX4_copy_84 : decode cX4_copy 84 = .ok (.getfield 89, 3) := by decide +kernel
theorem dX4_copy_87 : decode cX4_copy 87 = .ok (.iload 4, 2) := by decide +kernel
theorem dX4_copy_89 : decode cX4_copy 89 = .ok (.aload_n 0, 1) := by decide +kernel
theorem dX4_copy_90 : decode cX4_copy 90 = .ok (.getfield 24, 3) := by decide +kernel
theorem dX4_copy_93 : decode cX4_copy 93 = .ok (.iload_n 1, 1) := by decide +kernel
theorem dX4_copy_94 : decode cX4_copy 94 = .ok (.aaload, 1) := by decide +kernel
theorem dX4_copy_95 : decode cX4_copy 95 = .ok (.iload 4, 2) := by decide +kernel
theorem dX4_copy_97 : decode cX4_copy 97 = .ok (.invokevirtual 85, 3) := by decide +kernel
theorem dX4_copy_100 : decode cX4_copy 100 = .ok (.iastore, 1) := by decide +kernel
theorem dX4_copy_101 : decode cX4_copy 101 = .ok (.iinc 4 1, 3) := by decide +kernel
theorem dX4_copy_104 : decode cX4_copy 104 = .ok (.goto (-40), 3) := by decide +kernel
theorem dX4_copy_107 : decode cX4_copy 107 = .ok (.aload_n 0, 1) := by decide +kernel
theorem dX4_copy_108 : decode cX4_copy 108 = .ok (.getfield 24, 3) := by decide +kernel
theorem dX4_copy_111 : decode cX4_copy 111 = .ok (.iload_n 2, 1) := by decide +kernel
theorem dX4_copy_112 : decode cX4_copy 112 = .ok (.aaload, 1) := by decide +kernel
theorem dX4_copy_113 : decode cX4_copy 113 = .ok (.getfield 43, 3) := by decide +kernel
theorem dX4_copy_116 : decode cX4_copy 116 = .ok (.ireturn, 1) := by decide +kernel
theorem dX4_stands_0 : decode cX4_stands 0 = .ok (.iload_n 2, 1) := by decide +kernel
theorem dX4_stands_1 : decode cX4_stands 1 = .ok (.istore_n 3, 1) := by decide +kernel
theorem dX4_stands_2 : decode cX4_stands 2 = .ok (.iconst (-1), 1) := by decide +kernel
theorem dX4_stands_3 : decode cX4_stands 3 = .ok (.istore 4, 2) := by decide +kernel
theorem dX4_stands_5 : decode cX4_stands 5 = .ok (.iconst 0, 1) := by decide +kernel
theorem dX4_stands_6 : decode cX4_stands 6 = .ok (.istore 5, 2) := by decide +kernel
theorem dX4_stands_8 : decode cX4_stands 8 = .ok (.iload_n 1, 1) := by decide +kernel
theorem dX4_stands_9 : decode cX4_stands 9 = .ok (.invokestatic 48, 3) := by decide +kernel
theorem dX4_stands_12 : decode cX4_stands 12 = .ok (.ifCond .eq 86, 3) := by decide +kernel
theorem dX4_stands_15 : decode cX4_stands 15 = .ok (.iload_n 2, 1) := by decide +kernel
theorem dX4_stands_16 : decode cX4_stands 16 = .ok (.ifCond .lt 82, 3) := by decide +kernel
theorem dX4_stands_19 : decode cX4_stands 19 = .ok (.iload 5, 2) := by decide +kernel
theorem dX4_stands_21 : decode cX4_stands 21 = .ok (.iconst 4, 1) := by decide +kernel
theorem dX4_stands_22 : decode cX4_stands 22 = .ok (.if_icmp .ge 76, 3) := by decide +kernel
theorem dX4_stands_25 : decode cX4_stands 25 = .ok (.iconst 0, 1) := by decide +kernel
theorem dX4_stands_26 : decode cX4_stands 26 = .ok (.istore 6, 2) := by decide +kernel
theorem dX4_stands_28 : decode cX4_stands 28 = .ok (.iload 6, 2) := by decide +kernel
theorem dX4_stands_30 : decode cX4_stands 30 = .ok (.aload_n 0, 1) := by decide +kernel
theorem dX4_stands_31 : decode cX4_stands 31 = .ok (.getfield 24, 3) := by decide +kernel
theorem dX4_stands_34 : decode cX4_stands 34 = .ok (.iload 5, 2) := by decide +kernel
theorem dX4_stands_36 : decode cX4_stands 36 = .ok (.aaload, 1) := by decide +kernel
theorem dX4_stands_37 : decode cX4_stands 37 = .ok (.getfield 43, 3) := by decide +kernel
theorem dX4_stands_40 : decode cX4_stands 40 = .ok (.if_icmp .ge 52, 3) := by decide +kernel
theorem dX4_stands_43 : decode cX4_stands 43 = .ok (.iload 4, 2) := by decide +kernel
theorem dX4_stands_45 : decode cX4_stands 45 = .ok (.iconst (-1), 1) := by decide +kernel
theorem dX4_stands_46 : decode cX4_stands 46 = .ok (.if_icmp .ne 46, 3) := by decide +kernel
theorem dX4_stands_49 : decode cX4_stands 49 = .ok (.aload_n 0, 1) := by decide +kernel
theorem dX4_stands_50 : decode cX4_stands 50 = .ok (.getfield 24, 3) := by decide +kernel
theorem dX4_stands_53 : decode cX4_stands 53 = .ok (.iload 5, 2) := by decide +kernel
theorem dX4_stands_55 : decode cX4_stands 55 = .ok (.aaload, 1) := by decide +kernel
theorem dX4_stands_56 : decode cX4_stands 56 = .ok (.iload 6, 2) := by decide +kernel
theorem dX4_stands_58 : decode cX4_stands 58 = .ok (.invokevirtual 85, 3) := by decide +kernel
theorem dX4_stands_61 : decode cX4_stands 61 = .ok (.iload_n 1, 1) := by decide +kernel
theorem dX4_stands_62 : decode cX4_stands 62 = .ok (.if_icmp .ne 24, 3) := by decide +kernel
theorem dX4_stands_65 : decode cX4_stands 65 = .ok (.iload_n 3, 1) := by decide +kernel
theorem dX4_stands_66 : decode cX4_stands 66 = .ok (.ifCond .ne 14, 3) := by decide +kernel
theorem dX4_stands_69 : decode cX4_stands 69 = .ok (.bipush 100, 2) := by decide +kernel
theorem dX4_stands_71 : decode cX4_stands 71 = .ok (.iload 5, 2) := by decide +kernel
theorem dX4_stands_73 : decode cX4_stands 73 = .ok (.imul, 1) := by decide +kernel
theorem dX4_stands_74 : decode cX4_stands 74 = .ok (.iload 6, 2) := by decide +kernel
theorem dX4_stands_76 : decode cX4_stands 76 = .ok (.iadd, 1) := by decide +kernel
theorem dX4_stands_77 : decode cX4_stands 77 = .ok (.goto 4, 3) := by decide +kernel
theorem dX4_stands_80 : decode cX4_stands 80 = .ok (.iconst (-1), 1) := by decide +kernel
theorem dX4_stands_81 : decode cX4_stands 81 = .ok (.istore 4, 2) := by decide +kernel
theorem dX4_stands_83 : decode cX4_stands 83 = .ok (.iinc 3 (-1), 3) := by decide +kernel
theorem dX4_stands_86 : decode cX4_stands 86 = .ok (.iinc 6 1, 3) := by decide +kernel
theorem dX4_stands_89 : decode cX4_stands 89 = .ok (.goto (-61), 3) := by decide +kernel
theorem dX4_stands_92 : decode cX4_stands 92 = .ok (.iinc 5 1, 3) := by decide +kernel
theorem dX4_stands_95 : decode cX4_stands 95 = .ok (.goto (-87), 3) := by decide +kernel
theorem dX4_stands_98 : decode cX4_stands 98 = .ok (.aload_n 0, 1) := by decide +kernel
theorem dX4_stands_99 : decode cX4_stands 99 = .ok (.iload_n 1, 1) := by decide +kernel
theorem dX4_stands_100 : decode cX4_stands 100 = .ok (.invokestatic 48, 3) := by decide +kernel
theorem dX4_stands_103 : decode cX4_stands 103 = .ok (.iload 4, 2) := by decide +kernel
theorem dX4_stands_105 : decode cX4_stands 105 = .ok (.iconst (-1), 1) := by decide +kernel
theorem dX4_stands_106 : decode cX4_stands 106 = .ok (.if_icmp .eq 7, 3) := by decide +kernel
theorem dX4_stands_109 : decode cX4_stands 109 = .ok (.iconst 1, 1) := by decide +kernel
theorem dX4_stands_110 : decode cX4_stands 110 = .ok (.goto 4, 3) := by decide +kernel
theorem dX4_stands_113 : decode cX4_stands 113 = .ok (.iconst 0, 1) := by decide +kernel
theorem dX4_stands_114 : decode cX4_stands 114 = .ok (.iconst 1, 1) := by decide +kernel
theorem dX4_stands_115 : decode cX4_stands 115 = .ok (.invokevirtual 55, 3) := by decide +kernel
theorem dX4_stands_118 : decode cX4_stands 118 = .ok (.ifCond .eq 8, 3) := by decide +kernel
theorem dX4_stands_121 : decode cX4_stands 121 = .ok (.iload 4, 2) := by decide +kernel
theorem dX4_stands_123 : decode cX4_stands 123 = .ok (.goto 4, 3) := by decide +kernel
theorem dX4_stands_126 : decode cX4_stands 126 = .ok (.iconst 0, 1) := by decide +kernel
theorem dX4_stands_127 : decode cX4_stands 127 = .ok (.ireturn, 1) := by decide +kernel
theorem dX4_near_0 : decode cX4_near 0 = .ok (.aload_n 0, 1) := by decide +kernel
theorem dX4_near_1 : decode cX4_near 1 = .ok (.aload_n 0, 1) := by decide +kernel
theorem dX4_near_2 : decode cX4_near 2 = .ok (.iload_n 1, 1) := by decide +kernel
theorem dX4_near_3 : decode cX4_near 3 = .ok (.iload_n 2, 1) := by decide +kernel
theorem dX4_near_4 : decode cX4_near 4 = .ok (.invokevirtual 81, 3) := by decide +kernel
theorem dX4_near_7 : decode cX4_near 7 = .ok (.ifCond .eq 14, 3) := by decide +kernel
theorem dX4_near_10 : decode cX4_near 10 = .ok (.iload_n 3, 1) := by decide +kernel
theorem dX4_near_11 : decode cX4_near 11 = .ok (.invokestatic 48, 3) := by decide +kernel
theorem dX4_near_14 : decode cX4_near 14 = .ok (.ifCond .eq 7, 3) := by decide +kernel
theorem dX4_near_17 : decode cX4_near 17 = .ok (.iconst 1, 1) := by decide +kernel
theorem dX4_near_18 : decode cX4_near 18 = .ok (.goto 4, 3) := by decide +kernel
theorem dX4_near_21 : decode cX4_near 21 = .ok (.iconst 0, 1) := by decide +kernel
theorem dX4_near_22 : decode cX4_near 22 = .ok (.iconst 1, 1) := by decide +kernel
theorem dX4_near_23 : decode cX4_near 23 = .ok (.iconst 1, 1) := by decide +kernel
theorem dX4_near_24 : decode cX4_near 24 = .ok (.invokevirtual 55, 3) := by decide +kernel
theorem dX4_near_27 : decode cX4_near 27 = .ok (.ifCond .ne 5, 3) := by decide +kernel
theorem dX4_near_30 : decode cX4_near 30 = .ok (.iconst 0, 1) := by decide +kernel
theorem dX4_near_31 : decode cX4_near 31 = .ok (.ireturn, 1) := by decide +kernel
theorem dX4_near_32 : decode cX4_near 32 = .ok (.iconst (-1), 1) := by decide +kernel
theorem dX4_near_33 : decode cX4_near 33 = .ok (.istore 4, 2) := by decide +kernel
theorem dX4_near_35 : decode cX4_near 35 = .ok (.iconst 0, 1) := by decide +kernel
theorem dX4_near_36 : decode cX4_near 36 = .ok (.istore 5, 2) := by decide +kernel
theorem dX4_near_38 : decode cX4_near 38 = .ok (.iload 5, 2) := by decide +kernel
theorem dX4_near_40 : decode cX4_near 40 = .ok (.aload_n 0, 1) := by decide +kernel
theorem dX4_near_41 : decode cX4_near 41 = .ok (.getfield 24, 3) := by decide +kernel
theorem dX4_near_44 : decode cX4_near 44 = .ok (.iload_n 1, 1) := by decide +kernel
theorem dX4_near_45 : decode cX4_near 45 = .ok (.aaload, 1) := by decide +kernel
theorem dX4_near_46 : decode cX4_near 46 = .ok (.getfield 43, 3) := by decide +kernel
theorem dX4_near_49 : decode cX4_near 49 = .ok (.if_icmp .ge 68, 3) := by decide +kernel
theorem dX4_near_52 : decode cX4_near 52 = .ok (.aload_n 0, 1) := by decide +kernel
theorem dX4_near_53 : decode cX4_near 53 = .ok (.getfield 24, 3) := by decide +kernel
theorem dX4_near_56 : decode cX4_near 56 = .ok (.iload_n 1, 1) := by decide +kernel
theorem dX4_near_57 : decode cX4_near 57 = .ok (.aaload, 1) := by decide +kernel
theorem dX4_near_58 : decode cX4_near 58 = .ok (.iload 5, 2) := by decide +kernel
theorem dX4_near_60 : decode cX4_near 60 = .ok (.invokevirtual 85, 3) := by decide +kernel
theorem dX4_near_63 : decode cX4_near 63 = .ok (.iload_n 3, 1) := by decide +kernel
theorem dX4_near_64 : decode cX4_near 64 = .ok (.if_icmp .ne 7, 3) := by decide +kernel
theorem dX4_near_67 : decode cX4_near 67 = .ok (.iconst 1, 1) := by decide +kernel
theorem dX4_near_68 : decode cX4_near 68 = .ok (.goto 4, 3) := by decide +kernel
theorem dX4_near_71 : decode cX4_near 71 = .ok (.iconst 0, 1) := by decide +kernel
theorem dX4_near_72 : decode cX4_near 72 = .ok (.istore 6, 2) := by decide +kernel
theorem dX4_near_74 : decode cX4_near 74 = .ok (.iload 6, 2) := by decide +kernel
theorem dX4_near_76 : decode cX4_near 76 = .ok (.ifCond .eq 31, 3) := by decide +kernel
theorem dX4_near_79 : decode cX4_near 79 = .ok (.iload 4, 2) := by decide +kernel
theorem dX4_near_81 : decode cX4_near 81 = .ok (.iconst (-1), 1) := by decide +kernel
theorem dX4_near_82 : decode cX4_near 82 = .ok (.if_icmp .eq 20, 3) := by decide +kernel
theorem dX4_near_85 : decode cX4_near 85 = .ok (.iload 5, 2) := by decide +kernel
theorem dX4_near_87 : decode cX4_near 87 = .ok (.iload_n 2, 1) := by decide +kernel
theorem dX4_near_88 : decode cX4_near 88 = .ok (.isub, 1) := by decide +kernel
theorem dX4_near_89 : decode cX4_near 89 = .ok (.invokestatic 152, 3) := by decide +kernel
theorem dX4_near_92 : decode cX4_near 92 = .ok (.iload 4, 2) := by decide +kernel
theorem dX4_near_94 : decode cX4_near 94 = .ok (.iload_n 2, 1) := by decide +kernel
theorem dX4_near_95 : decode cX4_near 95 = .ok (.isub, 1) := by decide +kernel
theorem dX4_near_96 : decode cX4_near 96 = .ok (.invokestatic 152, 3) := by decide +kernel
theorem dX4_near_99 : decode cX4_near 99 = .ok (.if_icmp .ge 8, 3) := by decide +kernel
theorem dX4_near_102 : decode cX4_near 102 = .ok (.iload 5, 2) := by decide +kernel
theorem dX4_near_104 : decode cX4_near 104 = .ok (.goto 5, 3) := by decide +kernel
theorem dX4_near_107 : decode cX4_near 107 = .ok (.iload 4, 2) := by decide +kernel
theorem dX4_near_109 : decode cX4_near 109 = .ok (.istore 4, 2) := by decide +kernel
theorem dX4_near_111 : decode cX4_near 111 = .ok (.iinc 5 1, 3) := by decide +kernel
theorem dX4_near_114 : decode cX4_near 114 = .ok (.goto (-76), 3) := by decide +kernel
theorem dX4_near_117 : decode cX4_near 117 = .ok (.iload 4, 2) := by decide +kernel
theorem dX4_near_119 : decode cX4_near 119 = .ok (.ireturn, 1) := by decide +kernel
theorem dX4_common_0 : decode cX4_common 0 = .ok (.aload_n 0, 1) := by decide +kernel
theorem dX4_common_1 : decode cX4_common 1 = .ok (.iload_n 1, 1) := by decide +kernel
theorem dX4_common_2 : decode cX4_common 2 = .ok (.invokestatic 39, 3) := by decide +kernel
theorem dX4_common_5 : decode cX4_common 5 = .ok (.ifCond .eq 14, 3) := by decide +kernel
theorem dX4_common_8 : decode cX4_common 8 = .ok (.iload_n 2, 1) := by decide +kernel
theorem dX4_common_9 : decode cX4_common 9 = .ok (.invokestatic 39, 3) := by decide +kernel
theorem dX4_common_12 : decode cX4_common 12 = .ok (.ifCond .eq 7, 3) := by decide +kernel
theorem dX4_common_15 : decode cX4_common 15 = .ok (.iconst 1, 1) := by decide +kernel
theorem dX4_common_16 : decode cX4_common 16 = .ok (.goto 4, 3) := by decide +kernel
theorem dX4_common_19 : decode cX4_common 19 = .ok (.iconst 0, 1) := by decide +kernel
theorem dX4_common_20 : decode cX4_common 20 = .ok (.iload_n 3, 1) := by decide +kernel
theorem dX4_common_21 : decode cX4_common 21 = .ok (.i2l, 1) := by decide +kernel
theorem dX4_common_22 : decode cX4_common 22 = .ok (.lconst 0, 1) := by decide +kernel
theorem dX4_common_23 : decode cX4_common 23 = .ok (.ldc2_w 155, 3) := by decide +kernel
theorem dX4_common_26 : decode cX4_common 26 = .ok (.invokestatic 9, 3) := by decide +kernel
theorem dX4_common_29 : decode cX4_common 29 = .ok (.iconst 1, 1) := by decide +kernel
theorem dX4_common_30 : decode cX4_common 30 = .ok (.invokevirtual 55, 3) := by decide +kernel
theorem dX4_common_33 : decode cX4_common 33 = .ok (.ifCond .ne 5, 3) := by decide +kernel
theorem dX4_common_36 : decode cX4_common 36 = .ok (.iconst 0, 1) := by decide +kernel
theorem dX4_common_37 : decode cX4_common 37 = .ok (.ireturn, 1) := by decide +kernel
theorem dX4_common_38 : decode cX4_common 38 = .ok (.iconst 3, 1) := by decide +kernel
theorem dX4_common_39 : decode cX4_common 39 = .ok (.newarray .int, 2) := by decide +kernel
theorem dX4_common_41 : decode cX4_common 41 = .ok (.dup, 1) := by decide +kernel
theorem dX4_common_42 : decode cX4_common 42 = .ok (.iconst 0, 1) := by decide +kernel
theorem dX4_common_43 : decode cX4_common 43 = .ok (.iconst 0, 1) := by decide +kernel
theorem dX4_common_44 : decode cX4_common 44 = .ok (.iastore, 1) := by decide +kernel
theorem dX4_common_45 : decode cX4_common 45 = .ok (.dup, 1) := by decide +kernel
theorem dX4_common_46 : decode cX4_common 46 = .ok (.iconst 1, 1) := by decide +kernel
theorem dX4_common_47 : decode cX4_common 47 = .ok (.iconst 0, 1) := by decide +kernel
theorem dX4_common_48 : decode cX4_common 48 = .ok (.iastore, 1) := by decide +kernel
theorem dX4_common_49 : decode cX4_common 49 = .ok (.dup, 1) := by decide +kernel
theorem dX4_common_50 : decode cX4_common 50 = .ok (.iconst 2, 1) := by decide +kernel
theorem dX4_common_51 : decode cX4_common 51 = .ok (.iconst 0, 1) := by decide +kernel
theorem dX4_common_52 : decode cX4_common 52 = .ok (.iastore, 1) := by decide +kernel
theorem dX4_common_53 : decode cX4_common 53 = .ok (.astore 4, 2) := by decide +kernel
theorem dX4_common_55 : decode cX4_common 55 = .ok (.iconst 0, 1) := by decide +kernel
theorem dX4_common_56 : decode cX4_common 56 = .ok (.istore 5, 2) := by decide +kernel
theorem dX4_common_58 : decode cX4_common 58 = .ok (.iload 5, 2) := by decide +kernel
theorem dX4_common_60 : decode cX4_common 60 = .ok (.aload_n 0, 1) := by decide +kernel
theorem dX4_common_61 : decode cX4_common 61 = .ok (.getfield 24, 3) := by decide +kernel
theorem dX4_common_64 : decode cX4_common 64 = .ok (.iload_n 1, 1) := by decide +kernel
theorem dX4_common_65 : decode cX4_common 65 = .ok (.aaload, 1) := by decide +kernel
theorem dX4_common_66 : decode cX4_common 66 = .ok (.getfield 43, 3) := by decide +kernel
theorem dX4_common_69 : decode cX4_common 69 = .ok (.if_icmp .ge 80, 3) := by decide +kernel
theorem dX4_common_72 : decode cX4_common 72 = .ok (.iconst 0, 1) := by decide +kernel
theorem dX4_common_73 : decode cX4_common 73 = .ok (.istore 6, 2) := by decide +kernel
theorem dX4_common_75 : decode cX4_common 75 = .ok (.iload 6, 2) := by decide +kernel
theorem dX4_common_77 : decode cX4_common 77 = .ok (.aload_n 0, 1) := by decide +kernel
theorem dX4_common_78 : decode cX4_common 78 = .ok (.getfield 24, 3) := by decide +kernel
theorem dX4_common_81 : decode cX4_common 81 = .ok (.iload_n 2, 1) := by decide +kernel
theorem dX4_common_82 : decode cX4_common 82 = .ok (.aaload, 1) := by decide +kernel
theorem dX4_common_83 : decode cX4_common 83 = .ok (.getfield 43, 3) := by decide +kernel
theorem dX4_common_86 : decode cX4_common 86 = .ok (.if_icmp .ge 57, 3) := by decide +kernel
theorem dX4_common_89 : decode cX4_common 89 = .ok (.aload_n 0, 1) := by decide +kernel
theorem dX4_common_90 : decode cX4_common 90 = .ok (.getfield 24, 3) := by decide +kernel
theorem dX4_common_93 : decode cX4_common 93 = .ok (.iload_n 1, 1) := by decide +kernel
theorem dX4_common_94 : decode cX4_common 94 = .ok (.aaload, 1) := by decide +kernel
theorem dX4_common_95 : decode cX4_common 95 = .ok (.iload 5, 2) := by decide +kernel
theorem dX4_common_97 : decode cX4_common 97 = .ok (.aload_n 0, 1) := by decide +kernel
theorem dX4_common_98 : decode cX4_common 98 = .ok (.getfield 24, 3) := by decide +kernel
theorem dX4_common_101 : decode cX4_common 101 = .ok (.iload_n 2, 1) := by decide +kernel
theorem dX4_common_102 : decode cX4_common 102 = .ok (.aaload, 1) := by decide +kernel
theorem dX4_common_103 : decode cX4_common 103 = .ok (.iload 6, 2) := by decide +kernel
theorem dX4_common_105 : decode cX4_common 105 = .ok (.invokevirtual 157, 3) := by decide +kernel
theorem dX4_common_108 : decode cX4_common 108 = .ok (.istore 7, 2) := by decide +kernel
theorem dX4_common_110 : decode cX4_common 110 = .ok (.iload 7, 2) := by decide +kernel
theorem dX4_common_112 : decode cX4_common 112 = .ok (.aload 4, 2) := by decide +kernel
theorem dX4_common_114 : decode cX4_common 114 = .ok (.iconst 0, 1) := by decide +kernel
theorem dX4_common_115 : decode cX4_common 115 = .ok (.iaload, 1) := by decide +kernel
theorem dX4_common_116 : decode cX4_common 116 = .ok (.if_icmp .le 21, 3) := by decide +kernel
theorem dX4_common_119 : decode cX4_common 119 = .ok (.aload 4, 2) := by decide +kernel
theorem dX4_common_121 : decode cX4_common 121 = .ok (.iconst 0, 1) := by decide +kernel
theorem dX4_common_122 : decode cX4_common 122 = .ok (.iload 7, 2) := by decide +kernel
theorem dX4_common_124 : decode cX4_common 124 = .ok (.iastore, 1) := by decide +kernel
theorem dX4_common_125 : decode cX4_common 125 = .ok (.aload 4, 2) := by decide +kernel
theorem dX4_common_127 : decode cX4_common 127 = .ok (.iconst 1, 1) := by decide +kernel
theorem dX4_common_128 : decode cX4_common 128 = .ok (.iload 5, 2) := by decide +kernel
theorem dX4_common_130 : decode cX4_common 130 = .ok (.iastore, 1) := by decide +kernel
theorem dX4_common_131 : decode cX4_common 131 = .ok (.aload 4, 2) := by decide +kernel
theorem dX4_common_133 : decode cX4_common 133 = .ok (.iconst 2, 1) := by decide +kernel
theorem dX4_common_134 : decode cX4_common 134 = .ok (.iload 6, 2) := by decide +kernel
theorem dX4_common_136 : decode cX4_common 136 = .ok (.iastore, 1) := by decide +kernel
theorem dX4_common_137 : decode cX4_common 137 = .ok (.iinc 6 1, 3) := by decide +kernel
theorem dX4_common_140 : decode cX4_common 140 = .ok (.goto (-65), 3) := by decide +kernel
theorem dX4_common_143 : decode cX4_common 143 = .ok (.iinc 5 1, 3) := by decide +kernel
theorem dX4_common_146 : decode cX4_common 146 = .ok (.goto (-88), 3) := by decide +kernel
theorem dX4_common_149 : decode cX4_common 149 = .ok (.aload 4, 2) := by decide +kernel
theorem dX4_common_151 : decode cX4_common 151 = .ok (.iload_n 3, 1) := by decide +kernel
theorem dX4_common_152 : decode cX4_common 152 = .ok (.iaload, 1) := by decide +kernel
theorem dX4_common_153 : decode cX4_common 153 = .ok (.ireturn, 1) := by decide +kernel
theorem dX4_refuses_0 : decode cX4_refuses 0 = .ok (.aload_n 0, 1) := by decide +kernel
theorem dX4_refuses_1 : decode cX4_refuses 1 = .ok (.iload_n 1, 1) := by decide +kernel
theorem dX4_refuses_2 : decode cX4_refuses 2 = .ok (.i2l, 1) := by decide +kernel
theorem dX4_refuses_3 : decode cX4_refuses 3 = .ok (.lconst 0, 1) := by decide +kernel
theorem dX4_refuses_4 : decode cX4_refuses 4 = .ok (.ldc2_w 161, 3) := by decide +kernel
theorem dX4_refuses_7 : decode cX4_refuses 7 = .ok (.invokestatic 9, 3) := by decide +kernel
theorem dX4_refuses_10 : decode cX4_refuses 10 = .ok (.iconst 1, 1) := by decide +kernel
theorem dX4_refuses_11 : decode cX4_refuses 11 = .ok (.iconst 1, 1) := by decide +kernel
theorem dX4_refuses_12 : decode cX4_refuses 12 = .ok (.invokevirtual 55, 3) := by decide +kernel
theorem dX4_refuses_15 : decode cX4_refuses 15 = .ok (.ireturn, 1) := by decide +kernel
theorem dX4_turned_0 : decode cX4_turned 0 = .ok (.new 21, 3) := by decide +kernel
theorem dX4_turned_3 : decode cX4_turned 3 = .ok (.dup, 1) := by decide +kernel
theorem dX4_turned_4 : decode cX4_turned 4 = .ok (.invokespecial 23, 3) := by decide +kernel
theorem dX4_turned_7 : decode cX4_turned 7 = .ok (.astore_n 1, 1) := by decide +kernel
theorem dX4_turned_8 : decode cX4_turned 8 = .ok (.aload_n 0, 1) := by decide +kernel
theorem dX4_turned_9 : decode cX4_turned 9 = .ok (.getfield 43, 3) := by decide +kernel
theorem dX4_turned_12 : decode cX4_turned 12 = .ok (.iconst 1, 1) := by decide +kernel
theorem dX4_turned_13 : decode cX4_turned 13 = .ok (.isub, 1) := by decide +kernel
theorem dX4_turned_14 : decode cX4_turned 14 = .ok (.istore_n 2, 1) := by decide +kernel
theorem dX4_turned_15 : decode cX4_turned 15 = .ok (.iload_n 2, 1) := by decide +kernel
theorem dX4_turned_16 : decode cX4_turned 16 = .ok (.ifCond .lt 18, 3) := by decide +kernel
theorem dX4_turned_19 : decode cX4_turned 19 = .ok (.aload_n 1, 1) := by decide +kernel
theorem dX4_turned_20 : decode cX4_turned 20 = .ok (.aload_n 0, 1) := by decide +kernel
theorem dX4_turned_21 : decode cX4_turned 21 = .ok (.iload_n 2, 1) := by decide +kernel
theorem dX4_turned_22 : decode cX4_turned 22 = .ok (.invokevirtual 85, 3) := by decide +kernel
theorem dX4_turned_25 : decode cX4_turned 25 = .ok (.invokevirtual 59, 3) := by decide +kernel
theorem dX4_turned_28 : decode cX4_turned 28 = .ok (.iinc 2 (-1), 3) := by decide +kernel
theorem dX4_turned_31 : decode cX4_turned 31 = .ok (.goto (-16), 3) := by decide +kernel
theorem dX4_turned_34 : decode cX4_turned 34 = .ok (.aload_n 1, 1) := by decide +kernel
theorem dX4_turned_35 : decode cX4_turned 35 = .ok (.areturn, 1) := by decide +kernel
theorem dX4_errors_0 : decode cX4_errors 0 = .ok (.aload_n 0, 1) := by decide +kernel
theorem dX4_errors_1 : decode cX4_errors 1 = .ok (.iload_n 1, 1) := by decide +kernel
theorem dX4_errors_2 : decode cX4_errors 2 = .ok (.invokestatic 39, 3) := by decide +kernel
theorem dX4_errors_5 : decode cX4_errors 5 = .ok (.iconst 1, 1) := by decide +kernel
theorem dX4_errors_6 : decode cX4_errors 6 = .ok (.iconst 1, 1) := by decide +kernel
theorem dX4_errors_7 : decode cX4_errors 7 = .ok (.invokevirtual 55, 3) := by decide +kernel
theorem dX4_errors_10 : decode cX4_errors 10 = .ok (.ifCond .ne 5, 3) := by decide +kernel
theorem dX4_errors_13 : decode cX4_errors 13 = .ok (.iconst 0, 1) := by decide +kernel
theorem dX4_errors_14 : decode cX4_errors 14 = .ok (.ireturn, 1) := by decide +kernel
theorem dX4_errors_15 : decode cX4_errors 15 = .ok (.aload_n 0, 1) := by decide +kernel
theorem dX4_errors_16 : decode cX4_errors 16 = .ok (.getfield 24, 3) := by decide +kernel
theorem dX4_errors_19 : decode cX4_errors 19 = .ok (.iload_n 1, 1) := by decide +kernel
theorem dX4_errors_20 : decode cX4_errors 20 = .ok (.aaload, 1) := by decide +kernel
theorem dX4_errors_21 : decode cX4_errors 21 = .ok (.astore_n 2, 1) := by decide +kernel
theorem dX4_errors_22 : decode cX4_errors 22 = .ok (.aload_n 0, 1) := by decide +kernel
theorem dX4_errors_23 : decode cX4_errors 23 = .ok (.getfield 28, 3) := by decide +kernel
theorem dX4_errors_26 : decode cX4_errors 26 = .ok (.iconst 0, 1) := by decide +kernel
theorem dX4_errors_27 : decode cX4_errors 27 = .ok (.aaload, 1) := by decide +kernel
theorem dX4_errors_28 : decode cX4_errors 28 = .ok (.astore_n 3, 1) := by decide +kernel
theorem dX4_errors_29 : decode cX4_errors 29 = .ok (.aload_n 2, 1) := by decide +kernel
theorem dX4_errors_30 : decode cX4_errors 30 = .ok (.aload_n 3, 1) := by decide +kernel
theorem dX4_errors_31 : decode cX4_errors 31 = .ok (.iconst 0, 1) := by decide +kernel
theorem dX4_errors_32 : decode cX4_errors 32 = .ok (.invokevirtual 104, 3) := by decide +kernel
theorem dX4_errors_35 : decode cX4_errors 35 = .ok (.istore 4, 2) := by decide +kernel
theorem dX4_errors_37 : decode cX4_errors 37 = .ok (.iconst (-1), 1) := by decide +kernel
theorem dX4_errors_38 : decode cX4_errors 38 = .ok (.istore 5, 2) := by decide +kernel
theorem dX4_errors_40 : decode cX4_errors 40 = .ok (.aload_n 2, 1) := by decide +kernel
theorem dX4_errors_41 : decode cX4_errors 41 = .ok (.invokestatic 163, 3) := by decide +kernel
theorem dX4_errors_44 : decode cX4_errors 44 = .ok (.astore 6, 2) := by decide +kernel
theorem dX4_errors_46 : decode cX4_errors 46 = .ok (.aload_n 3, 1) := by decide +kernel
theorem dX4_errors_47 : decode cX4_errors 47 = .ok (.invokestatic 163, 3) := by decide +kernel
theorem dX4_errors_50 : decode cX4_errors 50 = .ok (.astore 7, 2) := by decide +kernel
theorem dX4_errors_52 : decode cX4_errors 52 = .ok (.iconst 0, 1) := by decide +kernel
theorem dX4_errors_53 : decode cX4_errors 53 = .ok (.istore 8, 2) := by decide +kernel
theorem dX4_errors_55 : decode cX4_errors 55 = .ok (.iload 8, 2) := by decide +kernel
theorem dX4_errors_57 : decode cX4_errors 57 = .ok (.aload 6, 2) := by decide +kernel
theorem dX4_errors_59 : decode cX4_errors 59 = .ok (.getfield 43, 3) := by decide +kernel
theorem dX4_errors_62 : decode cX4_errors 62 = .ok (.if_icmp .gt 30, 3) := by decide +kernel
theorem dX4_errors_65 : decode cX4_errors 65 = .ok (.aload 6, 2) := by decide +kernel
theorem dX4_errors_67 : decode cX4_errors 67 = .ok (.aload 7, 2) := by decide +kernel
theorem dX4_errors_69 : decode cX4_errors 69 = .ok (.iload 8, 2) := by decide +kernel
theorem dX4_errors_71 : decode cX4_errors 71 = .ok (.invokevirtual 108, 3) := by decide +kernel
theorem dX4_errors_74 : decode cX4_errors 74 = .ok (.ifCond .eq 8, 3) := by decide +kernel
theorem dX4_errors_77 : decode cX4_errors 77 = .ok (.iload 8, 2) := by decide +kernel
theorem dX4_errors_79 : decode cX4_errors 79 = .ok (.goto 5, 3) := by decide +kernel
theorem dX4_errors_82 : decode cX4_errors 82 = .ok (.iload 5, 2) := by decide +kernel
theorem dX4_errors_84 : decode cX4_errors 84 = .ok (.istore 5, 2) := by decide +kernel
theorem dX4_errors_86 : decode cX4_errors 86 = .ok (.iinc 8 1, 3) := by decide +kernel
theorem dX4_errors_89 : decode cX4_errors 89 = .ok (.goto (-34), 3) := by decide +kernel
theorem dX4_errors_92 : decode cX4_errors 92 = .ok (.iconst 0, 1) := by decide +kernel
theorem dX4_errors_93 : decode cX4_errors 93 = .ok (.istore 8, 2) := by decide +kernel
theorem dX4_errors_95 : decode cX4_errors 95 = .ok (.iconst 0, 1) := by decide +kernel
theorem dX4_errors_96 : decode cX4_errors 96 = .ok (.istore 9, 2) := by decide +kernel
theorem dX4_errors_98 : decode cX4_errors 98 = .ok (.iload 9, 2) := by decide +kernel
theorem dX4_errors_100 : decode cX4_errors 100 = .ok (.bipush 100, 2) := by decide +kernel
theorem dX4_errors_102 : decode cX4_errors 102 = .ok (.if_icmp .ge 20, 3) := by decide +kernel
theorem dX4_errors_105 : decode cX4_errors 105 = .ok (.iload 8, 2) := by decide +kernel
theorem dX4_errors_107 : decode cX4_errors 107 = .ok (.aload_n 2, 1) := by decide +kernel
theorem dX4_errors_108 : decode cX4_errors 108 = .ok (.iload 9, 2) := by decide +kernel
theorem dX4_errors_110 : decode cX4_errors 110 = .ok (.invokevirtual 120, 3) := by decide +kernel
theorem dX4_errors_113 : decode cX4_errors 113 = .ok (.iadd, 1) := by decide +kernel
theorem dX4_errors_114 : decode cX4_errors 114 = .ok (.istore 8, 2) := by decide +kernel
theorem dX4_errors_116 : decode cX4_errors 116 = .ok (.iinc 9 1, 3) := by decide +kernel
theorem dX4_errors_119 : decode cX4_errors 119 = .ok (.goto (-21), 3) := by decide +kernel
theorem dX4_errors_122 : decode cX4_errors 122 = .ok (.iload 4, 2) := by decide +kernel
theorem dX4_errors_124 : decode cX4_errors 124 = .ok (.iconst (-1), 1) := by decide +kernel
theorem dX4_errors_125 : decode cX4_errors 125 = .ok (.if_icmp .ne 7, 3) := by decide +kernel
theorem dX4_errors_128 : decode cX4_errors 128 = .ok (.iconst (-1), 1) := by decide +kernel
theorem dX4_errors_129 : decode cX4_errors 129 = .ok (.goto 15, 3) := by decide +kernel
theorem dX4_errors_132 : decode cX4_errors 132 = .ok (.aload_n 2, 1) := by decide +kernel
theorem dX4_errors_133 : decode cX4_errors 133 = .ok (.getfield 43, 3) := by decide +kernel
theorem dX4_errors_136 : decode cX4_errors 136 = .ok (.aload_n 3, 1) := by decide +kernel
theorem dX4_errors_137 : decode cX4_errors 137 = .ok (.getfield 43, 3) := by decide +kernel
theorem dX4_errors_140 : decode cX4_errors 140 = .ok (.isub, 1) := by decide +kernel
theorem dX4_errors_141 : decode cX4_errors 141 = .ok (.iload 4, 2) := by decide +kernel
theorem dX4_errors_143 : decode cX4_errors 143 = .ok (.isub, 1) := by decide +kernel
theorem dX4_errors_144 : decode cX4_errors 144 = .ok (.istore 9, 2) := by decide +kernel
theorem dX4_errors_146 : decode cX4_errors 146 = .ok (.iload 5, 2) := by decide +kernel
theorem dX4_errors_148 : decode cX4_errors 148 = .ok (.iload 9, 2) := by decide +kernel
theorem dX4_errors_150 : decode cX4_errors 150 = .ok (.if_icmp .ne 7, 3) := by decide +kernel
theorem dX4_errors_153 : decode cX4_errors 153 = .ok (.iconst 0, 1) := by decide +kernel
theorem dX4_errors_154 : decode cX4_errors 154 = .ok (.goto 4, 3) := by decide +kernel
theorem dX4_errors_157 : decode cX4_errors 157 = .ok (.iconst 1, 1) := by decide +kernel
theorem dX4_errors_158 : decode cX4_errors 158 = .ok (.iload 8, 2) := by decide +kernel
theorem dX4_errors_160 : decode cX4_errors 160 = .ok (.aload_n 2, 1) := by decide +kernel
theorem dX4_errors_161 : decode cX4_errors 161 = .ok (.getfield 43, 3) := by decide +kernel
theorem dX4_errors_164 : decode cX4_errors 164 = .ok (.if_icmp .ne 7, 3) := by decide +kernel
theorem dX4_errors_167 : decode cX4_errors 167 = .ok (.iconst 0, 1) := by decide +kernel
theorem dX4_errors_168 : decode cX4_errors 168 = .ok (.goto 4, 3) := by decide +kernel
theorem dX4_errors_171 : decode cX4_errors 171 = .ok (.iconst 1, 1) := by decide +kernel
theorem dX4_errors_172 : decode cX4_errors 172 = .ok (.iadd, 1) := by decide +kernel
theorem dX4_errors_173 : decode cX4_errors 173 = .ok (.ireturn, 1) := by decide +kernel
theorem dX4_meanWord_0 : decode cX4_meanWord 0 = .ok (.aload_n 0, 1) := by decide +kernel
theorem dX4_meanWord_1 : decode cX4_meanWord 1 = .ok (.iload_n 1, 1) := by decide +kernel
theorem dX4_meanWord_2 : decode cX4_meanWord 2 = .ok (.invokestatic 39, 3) := by decide +kernel
theorem dX4_meanWord_5 : decode cX4_meanWord 5 = .ok (.iconst 1, 1) := by decide +kernel
theorem dX4_meanWord_6 : decode cX4_meanWord 6 = .ok (.iconst 1, 1) := by decide +kernel
theorem dX4_meanWord_7 : decode cX4_meanWord 7 = .ok (.invokevirtual 55, 3) := by decide +kernel
theorem dX4_meanWord_10 : decode cX4_meanWord 10 = .ok (.ifCond .ne 5, 3) := by decide +kernel
theorem dX4_meanWord_13 : decode cX4_meanWord 13 = .ok (.dconst 0, 1) := by decide +kernel
theorem dX4_meanWord_14 : decode cX4_meanWord 14 = .ok (.dreturn, 1) := by decide +kernel
theorem dX4_meanWord_15 : decode cX4_meanWord 15 = .ok (.iconst 0, 1) := by decide +kernel
theorem dX4_meanWord_16 : decode cX4_meanWord 16 = .ok (.istore_n 2, 1) := by decide +kernel
theorem dX4_meanWord_17 : decode cX4_meanWord 17 = .ok (.iconst 0, 1) := by decide +kernel
theorem dX4_meanWord_18 : decode cX4_meanWord 18 = .ok (.istore_n 3, 1) := by decide +kernel
theorem dX4_meanWord_19 : decode cX4_meanWord 19 = .ok (.iload_n 3, 1) := by decide +kernel
theorem dX4_meanWord_20 : decode cX4_meanWord 20 = .ok (.aload_n 0, 1) := by decide +kernel
theorem dX4_meanWord_21 : decode cX4_meanWord 21 = .ok (.getfield 24, 3) := by decide +kernel
theorem dX4_meanWord_24 : decode cX4_meanWord 24 = .ok (.iload_n 1, 1) := by decide +kernel
theorem dX4_meanWord_25 : decode cX4_meanWord 25 = .ok (.aaload, 1) := by decide +kernel
theorem dX4_meanWord_26 : decode cX4_meanWord 26 = .ok (.getfield 43, 3) := by decide +kernel
theorem dX4_meanWord_29 : decode cX4_meanWord 29 = .ok (.if_icmp .ge 22, 3) := by decide +kernel
theorem dX4_meanWord_32 : decode cX4_meanWord 32 = .ok (.iload_n 2, 1) := by decide +kernel
theorem dX4_meanWord_33 : decode cX4_meanWord 33 = .ok (.aload_n 0, 1) := by decide +kernel
theorem dX4_meanWord_34 : decode cX4_meanWord 34 = .ok (.getfield 24, 3) := by decide +kernel
theorem dX4_meanWord_37 : decode cX4_meanWord 37 = .ok (.iload_n 1, 1) := by decide +kernel
theorem dX4_meanWord_38 : decode cX4_meanWord 38 = .ok (.aaload, 1) := by decide +kernel
theorem dX4_meanWord_39 : decode cX4_meanWord 39 = .ok (.iload_n 3, 1) := by decide +kernel
theorem dX4_meanWord_40 : decode cX4_meanWord 40 = .ok (.invokevirtual 85, 3) := by decide +kernel
theorem dX4_meanWord_43 : decode cX4_meanWord 43 = .ok (.iadd, 1) := by decide +kernel
theorem dX4_meanWord_44 : decode cX4_meanWord 44 = .ok (.istore_n 2, 1) := by decide +kernel
theorem dX4_meanWord_45 : decode cX4_meanWord 45 = .ok (.iinc 3 1, 3) := by decide +kernel
theorem dX4_meanWord_48 : decode cX4_meanWord 48 = .ok (.goto (-29), 3) := by decide +kernel
theorem dX4_meanWord_51 : decode cX4_meanWord 51 = .ok (.aload_n 0, 1) := by decide +kernel
theorem dX4_meanWord_52 : decode cX4_meanWord 52 = .ok (.getfield 24, 3) := by decide +kernel
theorem dX4_meanWord_55 : decode cX4_meanWord 55 = .ok (.iload_n 1, 1) := by decide +kernel
theorem dX4_meanWord_56 : decode cX4_meanWord 56 = .ok (.aaload, 1) := by decide +kernel
theorem dX4_meanWord_57 : decode cX4_meanWord 57 = .ok (.getfield 43, 3) := by decide +kernel
theorem dX4_meanWord_60 : decode cX4_meanWord 60 = .ok (.ifCond .ne 7, 3) := by decide +kernel
theorem dX4_meanWord_63 : decode cX4_meanWord 63 = .ok (.dconst 0, 1) := by decide +kernel
theorem dX4_meanWord_64 : decode cX4_meanWord 64 = .ok (.goto 16, 3) := by decide +kernel
theorem dX4_meanWord_67 : decode cX4_meanWord 67 = .ok (.iload_n 2, 1) := by decide +kernel
theorem dX4_meanWord_68 : decode cX4_meanWord 68 = .ok (.i2d, 1) := by decide +kernel
theorem dX4_meanWord_69 : decode cX4_meanWord 69 = .ok (.aload_n 0, 1) := by decide +kernel
theorem dX4_meanWord_70 : decode cX4_meanWord 70 = .ok (.getfield 24, 3) := by decide +kernel
theorem dX4_meanWord_73 : decode cX4_meanWord 73 = .ok (.iload_n 1, 1) := by decide +kernel
theorem dX4_meanWord_74 : decode cX4_meanWord 74 = .ok (.aaload, 1) := by decide +kernel
theorem dX4_meanWord_75 : decode cX4_meanWord 75 = .ok (.getfield 43, 3) := by decide +kernel
theorem dX4_meanWord_78 : decode cX4_meanWord 78 = .ok (.i2d, 1) := by decide +kernel
theorem dX4_meanWord_79 : decode cX4_meanWord 79 = .ok (.ddiv, 1) := by decide +kernel
theorem dX4_meanWord_80 : decode cX4_meanWord 80 = .ok (.dreturn, 1) := by decide +kernel
theorem dX4_share_0 : decode cX4_share 0 = .ok (.aload_n 0, 1) := by decide +kernel
theorem dX4_share_1 : decode cX4_share 1 = .ok (.iload_n 1, 1) := by decide +kernel
theorem dX4_share_2 : decode cX4_share 2 = .ok (.invokestatic 39, 3) := by decide +kernel
theorem dX4_share_5 : decode cX4_share 5 = .ok (.ifCond .eq 14, 3) := by decide +kernel
theorem dX4_share_8 : decode cX4_share 8 = .ok (.iload_n 2, 1) := by decide +kernel
theorem dX4_share_9 : decode cX4_share 9 = .ok (.invokestatic 48, 3) := by decide +kernel
theorem dX4_share_12 : decode cX4_share 12 = .ok (.ifCond .eq 7, 3) := by decide +kernel
theorem dX4_share_15 : decode cX4_share 15 = .ok (.iconst 1, 1) := by decide +kernel
theorem dX4_share_16 : decode cX4_share 16 = .ok (.goto 4, 3) := by decide +kernel
theorem dX4_share_19 : decode cX4_share 19 = .ok (.iconst 0, 1) := by decide +kernel
theorem dX4_share_20 : decode cX4_share 20 = .ok (.iconst 1, 1) := by decide +kernel
theorem dX4_share_21 : decode cX4_share 21 = .ok (.iconst 1, 1) := by decide +kernel
theorem dX4_share_22 : decode cX4_share 22 = .ok (.invokevirtual 55, 3) := by decide +kernel
theorem dX4_share_25 : decode cX4_share 25 = .ok (.ifCond .ne 5, 3) := by decide +kernel
theorem dX4_share_28 : decode cX4_share 28 = .ok (.fconst 0, 1) := by decide +kernel
theorem dX4_share_29 : decode cX4_share 29 = .ok (.freturn, 1) := by decide +kernel
theorem dX4_share_30 : decode cX4_share 30 = .ok (.aload_n 0, 1) := by decide +kernel
theorem dX4_share_31 : decode cX4_share 31 = .ok (.getfield 24, 3) := by decide +kernel
theorem dX4_share_34 : decode cX4_share 34 = .ok (.iload_n 1, 1) := by decide +kernel
theorem dX4_share_35 : decode cX4_share 35 = .ok (.aaload, 1) := by decide +kernel
theorem dX4_share_36 : decode cX4_share 36 = .ok (.getfield 43, 3) := by decide +kernel
theorem dX4_share_39 : decode cX4_share 39 = .ok (.istore_n 3, 1) := by decide +kernel
theorem dX4_share_40 : decode cX4_share 40 = .ok (.iload_n 3, 1) := by decide +kernel
theorem dX4_share_41 : decode cX4_share 41 = .ok (.ifCond .ne 7, 3) := by decide +kernel
theorem dX4_share_44 : decode cX4_share 44 = .ok (.fconst 0, 1) := by decide +kernel
theorem dX4_share_45 : decode cX4_share 45 = .ok (.goto 17, 3) := by decide +kernel
theorem dX4_share_48 : decode cX4_share 48 = .ok (.aload_n 0, 1) := by decide +kernel
theorem dX4_share_49 : decode cX4_share 49 = .ok (.getfield 24, 3) := by decide +kernel
theorem dX4_share_52 : decode cX4_share 52 = .ok (.iload_n 1, 1) := by decide +kernel
theorem dX4_share_53 : decode cX4_share 53 = .ok (.aaload, 1) := by decide +kernel
theorem dX4_share_54 : decode cX4_share 54 = .ok (.iload_n 2, 1) := by decide +kernel
theorem dX4_share_55 : decode cX4_share 55 = .ok (.invokevirtual 120, 3) := by decide +kernel
theorem dX4_share_58 : decode cX4_share 58 = .ok (.i2f, 1) := by decide +kernel
theorem dX4_share_59 : decode cX4_share 59 = .ok (.iload_n 3, 1) := by decide +kernel
theorem dX4_share_60 : decode cX4_share 60 = .ok (.i2f, 1) := by decide +kernel
theorem dX4_share_61 : decode cX4_share 61 = .ok (.fdiv, 1) := by decide +kernel
theorem dX4_share_62 : decode cX4_share 62 = .ok (.freturn, 1) := by decide +kernel
