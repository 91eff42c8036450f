theorem dX0_init_0 : decode cX0_init 0 = .ok (.aload_n 0, 1) := by decide +kernel
theorem dX0_init_1 : decode cX0_init 1 = .ok (.invokespecial 5, 3) := by decide +kernel
theorem dX0_init_4 : decode cX0_init 4 = .ok (.aload_n 0, 1) := by decide +kernel
theorem dX0_init_5 : decode cX0_init 5 = .ok (.new 1, 3) := by decide +kernel
theorem dX0_init_8 : decode cX0_init 8 = .ok (.dup, 1) := by decide +kernel
theorem dX0_init_9 : decode cX0_init 9 = .ok (.invokespecial 11, 3) := by decide +kernel
theorem dX0_init_12 : decode cX0_init 12 = .ok (.putfield 12, 3) := by decide +kernel
theorem dX0_init_15 : decode cX0_init 15 = .ok (.aload_n 0, 1) := by decide +kernel
theorem dX0_init_16 : decode cX0_init 16 = .ok (.new 1, 3) := by decide +kernel
theorem dX0_init_19 : decode cX0_init 19 = .ok (.dup, 1) := by decide +kernel
theorem dX0_init_20 : decode cX0_init 20 = .ok (.invokespecial 11, 3) := by decide +kernel
theorem dX0_init_23 : decode cX0_init 23 = .ok (.putfield 18, 3) := by decide +kernel
theorem dX0_init_26 : decode cX0_init 26 = .ok (.return_, 1) := by decide +kernel
theorem dX0_of_0 : decode cX0_of 0 = .ok (.iload_n 1, 1) := by decide +kernel
theorem dX0_of_1 : decode cX0_of 1 = .ok (.ifCond .ne 10, 3) := by decide +kernel
theorem dX0_of_4 : decode cX0_of 4 = .ok (.aload_n 0, 1) := by decide +kernel
theorem dX0_of_5 : decode cX0_of 5 = .ok (.getfield 12, 3) := by decide +kernel
theorem dX0_of_8 : decode cX0_of 8 = .ok (.goto 7, 3) := by decide +kernel
theorem dX0_of_11 : decode cX0_of 11 = .ok (.aload_n 0, 1) := by decide +kernel
theorem dX0_of_12 : decode cX0_of 12 = .ok (.getfield 18, 3) := by decide +kernel
theorem dX0_of_15 : decode cX0_of 15 = .ok (.areturn, 1) := by decide +kernel
theorem dX0_clear_0 : decode cX0_clear 0 = .ok (.aload_n 0, 1) := by decide +kernel
theorem dX0_clear_1 : decode cX0_clear 1 = .ok (.getfield 12, 3) := by decide +kernel
theorem dX0_clear_4 : decode cX0_clear 4 = .ok (.iconst 0, 1) := by decide +kernel
theorem dX0_clear_5 : decode cX0_clear 5 = .ok (.iconst 1, 1) := by decide +kernel
theorem dX0_clear_6 : decode cX0_clear 6 = .ok (.bipush 20, 2) := by decide +kernel
theorem dX0_clear_8 : decode cX0_clear 8 = .ok (.invokevirtual 21, 3) := by decide +kernel
theorem dX0_clear_11 : decode cX0_clear 11 = .ok (.aload_n 0, 1) := by decide +kernel
theorem dX0_clear_12 : decode cX0_clear 12 = .ok (.getfield 18, 3) := by decide +kernel
theorem dX0_clear_15 : decode cX0_clear 15 = .ok (.iconst 0, 1) := by decide +kernel
theorem dX0_clear_16 : decode cX0_clear 16 = .ok (.iconst 1, 1) := by decide +kernel
theorem dX0_clear_17 : decode cX0_clear 17 = .ok (.bipush 20, 2) := by decide +kernel
theorem dX0_clear_19 : decode cX0_clear 19 = .ok (.invokevirtual 21, 3) := by decide +kernel
theorem dX0_clear_22 : decode cX0_clear 22 = .ok (.aload_n 0, 1) := by decide +kernel
theorem dX0_clear_23 : decode cX0_clear 23 = .ok (.bipush 10, 2) := by decide +kernel
theorem dX0_clear_25 : decode cX0_clear 25 = .ok (.putfield 25, 3) := by decide +kernel
theorem dX0_clear_28 : decode cX0_clear 28 = .ok (.aload_n 0, 1) := by decide +kernel
theorem dX0_clear_29 : decode cX0_clear 29 = .ok (.iconst 0, 1) := by decide +kernel
theorem dX0_clear_30 : decode cX0_clear 30 = .ok (.putfield 29, 3) := by decide +kernel
theorem dX0_clear_33 : decode cX0_clear 33 = .ok (.return_, 1) := by decide +kernel
theorem dX0_copy_0 : decode cX0_copy 0 = .ok (.aload_n 0, 1) := by decide +kernel
theorem dX0_copy_1 : decode cX0_copy 1 = .ok (.getfield 12, 3) := by decide +kernel
theorem dX0_copy_4 : decode cX0_copy 4 = .ok (.aload_n 1, 1) := by decide +kernel
theorem dX0_copy_5 : decode cX0_copy 5 = .ok (.getfield 12, 3) := by decide +kernel
theorem dX0_copy_8 : decode cX0_copy 8 = .ok (.invokevirtual 32, 3) := by decide +kernel
theorem dX0_copy_11 : decode cX0_copy 11 = .ok (.aload_n 0, 1) := by decide +kernel
theorem dX0_copy_12 : decode cX0_copy 12 = .ok (.getfield 18, 3) := by decide +kernel
theorem dX0_copy_15 : decode cX0_copy 15 = .ok (.aload_n 1, 1) := by decide +kernel
theorem dX0_copy_16 : decode cX0_copy 16 = .ok (.getfield 18, 3) := by decide +kernel
theorem dX0_copy_19 : decode cX0_copy 19 = .ok (.invokevirtual 32, 3) := by decide +kernel
theorem dX0_copy_22 : decode cX0_copy 22 = .ok (.aload_n 0, 1) := by decide +kernel
theorem dX0_copy_23 : decode cX0_copy 23 = .ok (.aload_n 1, 1) := by decide +kernel
theorem dX0_copy_24 : decode cX0_copy 24 = .ok (.getfield 25, 3) := by decide +kernel
theorem dX0_copy_27 : decode cX0_copy 27 = .ok (.putfield 25, 3) := by decide +kernel
theorem dX0_copy_30 : decode cX0_copy 30 = .ok (.aload_n 0, 1) := by decide +kernel
theorem dX0_copy_31 : decode cX0_copy 31 = .ok (.aload_n 1, 1) := by decide +kernel
theorem dX0_copy_32 : decode cX0_copy 32 = .ok (.getfield 29, 3) := by decide +kernel
theorem dX0_copy_35 : decode cX0_copy 35 = .ok (.putfield 29, 3) := by decide +kernel
theorem dX0_copy_38 : decode cX0_copy 38 = .ok (.return_, 1) := by decide +kernel
theorem dX0_store_0 : decode cX0_store 0 = .ok (.aload_n 0, 1) := by decide +kernel
theorem dX0_store_1 : decode cX0_store 1 = .ok (.getfield 12, 3) := by decide +kernel
theorem dX0_store_4 : decode cX0_store 4 = .ok (.aload_n 1, 1) := by decide +kernel
theorem dX0_store_5 : decode cX0_store 5 = .ok (.iload_n 2, 1) := by decide +kernel
theorem dX0_store_6 : decode cX0_store 6 = .ok (.invokevirtual 36, 3) := by decide +kernel
theorem dX0_store_9 : decode cX0_store 9 = .ok (.aload_n 0, 1) := by decide +kernel
theorem dX0_store_10 : decode cX0_store 10 = .ok (.getfield 18, 3) := by decide +kernel
theorem dX0_store_13 : decode cX0_store 13 = .ok (.aload_n 1, 1) := by decide +kernel
theorem dX0_store_14 : decode cX0_store 14 = .ok (.iload_n 2, 1) := by decide +kernel
theorem dX0_store_15 : decode cX0_store 15 = .ok (.iconst 5, 1) := by decide +kernel
theorem dX0_store_16 : decode cX0_store 16 = .ok (.iadd, 1) := by decide +kernel
theorem dX0_store_17 : decode cX0_store 17 = .ok (.invokevirtual 36, 3) := by decide +kernel
theorem dX0_store_20 : decode cX0_store 20 = .ok (.aload_n 1, 1) := by decide +kernel
theorem dX0_store_21 : decode cX0_store 21 = .ok (.iload_n 2, 1) := by decide +kernel
theorem dX0_store_22 : decode cX0_store 22 = .ok (.bipush 10, 2) := by decide +kernel
theorem dX0_store_24 : decode cX0_store 24 = .ok (.iadd, 1) := by decide +kernel
theorem dX0_store_25 : decode cX0_store 25 = .ok (.aload_n 0, 1) := by decide +kernel
theorem dX0_store_26 : decode cX0_store 26 = .ok (.getfield 25, 3) := by decide +kernel
theorem dX0_store_29 : decode cX0_store 29 = .ok (.invokestatic 40, 3) := by decide +kernel
theorem dX0_store_32 : decode cX0_store 32 = .ok (.aload_n 1, 1) := by decide +kernel
theorem dX0_store_33 : decode cX0_store 33 = .ok (.iload_n 2, 1) := by decide +kernel
theorem dX0_store_34 : decode cX0_store 34 = .ok (.bipush 10, 2) := by decide +kernel
theorem dX0_store_36 : decode cX0_store 36 = .ok (.iadd, 1) := by decide +kernel
theorem dX0_store_37 : decode cX0_store 37 = .ok (.iconst 1, 1) := by decide +kernel
theorem dX0_store_38 : decode cX0_store 38 = .ok (.iadd, 1) := by decide +kernel
theorem dX0_store_39 : decode cX0_store 39 = .ok (.aload_n 0, 1) := by decide +kernel
theorem dX0_store_40 : decode cX0_store 40 = .ok (.getfield 29, 3) := by decide +kernel
theorem dX0_store_43 : decode cX0_store 43 = .ok (.invokestatic 40, 3) := by decide +kernel
theorem dX0_store_46 : decode cX0_store 46 = .ok (.return_, 1) := by decide +kernel
theorem dX0_restore_0 : decode cX0_restore 0 = .ok (.aload_n 0, 1) := by decide +kernel
theorem dX0_restore_1 : decode cX0_restore 1 = .ok (.getfield 12, 3) := by decide +kernel
theorem dX0_restore_4 : decode cX0_restore 4 = .ok (.aload_n 1, 1) := by decide +kernel
theorem dX0_restore_5 : decode cX0_restore 5 = .ok (.iload_n 2, 1) := by decide +kernel
theorem dX0_restore_6 : decode cX0_restore 6 = .ok (.invokevirtual 44, 3) := by decide +kernel
theorem dX0_restore_9 : decode cX0_restore 9 = .ok (.aload_n 0, 1) := by decide +kernel
theorem dX0_restore_10 : decode cX0_restore 10 = .ok (.getfield 18, 3) := by decide +kernel
theorem dX0_restore_13 : decode cX0_restore 13 = .ok (.aload_n 1, 1) := by decide +kernel
theorem dX0_restore_14 : decode cX0_restore 14 = .ok (.iload_n 2, 1) := by decide +kernel
theorem dX0_restore_15 : decode cX0_restore 15 = .ok (.iconst 5, 1) := by decide +kernel
theorem dX0_restore_16 : decode cX0_restore 16 = .ok (.iadd, 1) := by decide +kernel
theorem dX0_restore_17 : decode cX0_restore 17 = .ok (.invokevirtual 44, 3) := by decide +kernel
theorem dX0_restore_20 : decode cX0_restore 20 = .ok (.aload_n 0, 1) := by decide +kernel
theorem dX0_restore_21 : decode cX0_restore 21 = .ok (.aload_n 1, 1) := by decide +kernel
theorem dX0_restore_22 : decode cX0_restore 22 = .ok (.iload_n 2, 1) := by decide +kernel
theorem dX0_restore_23 : decode cX0_restore 23 = .ok (.bipush 10, 2) := by decide +kernel
theorem dX0_restore_25 : decode cX0_restore 25 = .ok (.iadd, 1) := by decide +kernel
theorem dX0_restore_26 : decode cX0_restore 26 = .ok (.invokestatic 47, 3) := by decide +kernel
theorem dX0_restore_29 : decode cX0_restore 29 = .ok (.putfield 25, 3) := by decide +kernel
theorem dX0_restore_32 : decode cX0_restore 32 = .ok (.aload_n 0, 1) := by decide +kernel
theorem dX0_restore_33 : decode cX0_restore 33 = .ok (.aload_n 1, 1) := by decide +kernel
theorem dX0_restore_34 : decode cX0_restore 34 = .ok (.iload_n 2, 1) := by decide +kernel
theorem dX0_restore_35 : decode cX0_restore 35 = .ok (.bipush 10, 2) := by decide +kernel
theorem dX0_restore_37 : decode cX0_restore 37 = .ok (.iadd, 1) := by decide +kernel
theorem dX0_restore_38 : decode cX0_restore 38 = .ok (.iconst 1, 1) := by decide +kernel
theorem dX0_restore_39 : decode cX0_restore 39 = .ok (.iadd, 1) := by decide +kernel
theorem dX0_restore_40 : decode cX0_restore 40 = .ok (.invokestatic 47, 3) := by decide +kernel
theorem dX0_restore_43 : decode cX0_restore 43 = .ok (.putfield 29, 3) := by decide +kernel
theorem dX0_restore_46 : decode cX0_restore 46 = .ok (.return_, 1) := by decide +kernel
theorem dX0_loser_0 : decode cX0_loser 0 = .ok (.aload_n 0, 1) := by decide +kernel
theorem dX0_loser_1 : decode cX0_loser 1 = .ok (.getfield 12, 3) := by decide +kernel
theorem dX0_loser_4 : decode cX0_loser 4 = .ok (.getfield 51, 3) := by decide +kernel
theorem dX0_loser_7 : decode cX0_loser 7 = .ok (.aload_n 1, 1) := by decide +kernel
theorem dX0_loser_8 : decode cX0_loser 8 = .ok (.getfield 54, 3) := by decide +kernel
theorem dX0_loser_11 : decode cX0_loser 11 = .ok (.if_icmp .lt 5, 3) := by decide +kernel
theorem dX0_loser_14 : decode cX0_loser 14 = .ok (.iconst 0, 1) := by decide +kernel
theorem dX0_loser_15 : decode cX0_loser 15 = .ok (.ireturn, 1) := by decide +kernel
theorem dX0_loser_16 : decode cX0_loser 16 = .ok (.aload_n 0, 1) := by decide +kernel
theorem dX0_loser_17 : decode cX0_loser 17 = .ok (.getfield 18, 3) := by decide +kernel
theorem dX0_loser_20 : decode cX0_loser 20 = .ok (.getfield 51, 3) := by decide +kernel
theorem dX0_loser_23 : decode cX0_loser 23 = .ok (.aload_n 1, 1) := by decide +kernel
theorem dX0_loser_24 : decode cX0_loser 24 = .ok (.getfield 54, 3) := by decide +kernel
theorem dX0_loser_27 : decode cX0_loser 27 = .ok (.if_icmp .lt 7, 3) := by decide +kernel
theorem dX0_loser_30 : decode cX0_loser 30 = .ok (.iconst 1, 1) := by decide +kernel
theorem dX0_loser_31 : decode cX0_loser 31 = .ok (.goto 5, 3) := by decide +kernel
theorem dX0_loser_34 : decode cX0_loser 34 = .ok (.bipush (-4), 2) := by decide +kernel
theorem dX0_loser_36 : decode cX0_loser 36 = .ok (.ireturn, 1) := by decide +kernel
theorem dX0_isShaded_0 : decode cX0_isShaded 0 = .ok (.aload_n 0, 1) := by decide +kernel
theorem dX0_isShaded_1 : decode cX0_isShaded 1 = .ok (.iload_n 1, 1) := by decide +kernel
theorem dX0_isShaded_2 : decode cX0_isShaded 2 = .ok (.invokevirtual 59, 3) := by decide +kernel
theorem dX0_isShaded_5 : decode cX0_isShaded 5 = .ok (.astore 4, 2) := by decide +kernel
theorem dX0_isShaded_7 : decode cX0_isShaded 7 = .ok (.aload_n 0, 1) := by decide +kernel
theorem dX0_isShaded_8 : decode cX0_isShaded 8 = .ok (.iconst 1, 1) := by decide +kernel
theorem dX0_isShaded_9 : decode cX0_isShaded 9 = .ok (.iload_n 1, 1) := by decide +kernel
theorem dX0_isShaded_10 : decode cX0_isShaded 10 = .ok (.isub, 1) := by decide +kernel
theorem dX0_isShaded_11 : decode cX0_isShaded 11 = .ok (.invokevirtual 59, 3) := by decide +kernel
theorem dX0_isShaded_14 : decode cX0_isShaded 14 = .ok (.astore 5, 2) := by decide +kernel
theorem dX0_isShaded_16 : decode cX0_isShaded 16 = .ok (.aload 4, 2) := by decide +kernel
theorem dX0_isShaded_18 : decode cX0_isShaded 18 = .ok (.getfield 63, 3) := by decide +kernel
theorem dX0_isShaded_21 : decode cX0_isShaded 21 = .ok (.aload 5, 2) := by decide +kernel
theorem dX0_isShaded_23 : decode cX0_isShaded 23 = .ok (.getfield 63, 3) := by decide +kernel
theorem dX0_isShaded_26 : decode cX0_isShaded 26 = .ok (.if_icmp .ge 23, 3) := by decide +kernel
theorem dX0_isShaded_29 : decode cX0_isShaded 29 = .ok (.aload 5, 2) := by decide +kernel
theorem dX0_isShaded_31 : decode cX0_isShaded 31 = .ok (.iload_n 2, 1) := by decide +kernel
theorem dX0_isShaded_32 : decode cX0_isShaded 32 = .ok (.invokevirtual 66, 3) := by decide +kernel
theorem dX0_isShaded_35 : decode cX0_isShaded 35 = .ok (.iload_n 3, 1) := by decide +kernel
theorem dX0_isShaded_36 : decode cX0_isShaded 36 = .ok (.aload 5, 2) := by decide +kernel
theorem dX0_isShaded_38 : decode cX0_isShaded 38 = .ok (.getfield 70, 3) := by decide +kernel
theorem dX0_isShaded_41 : decode cX0_isShaded 41 = .ok (.isub, 1) := by decide +kernel
theorem dX0_isShaded_42 : decode cX0_isShaded 42 = .ok (.if_icmp .lt 7, 3) := by decide +kernel
theorem dX0_isShaded_45 : decode cX0_isShaded 45 = .ok (.iconst 1, 1) := by decide +kernel
theorem dX0_isShaded_46 : decode cX0_isShaded 46 = .ok (.goto 4, 3) := by decide +kernel
theorem dX0_isShaded_49 : decode cX0_isShaded 49 = .ok (.iconst 0, 1) := by decide +kernel
theorem dX0_isShaded_50 : decode cX0_isShaded 50 = .ok (.ireturn, 1) := by decide +kernel
theorem dX0_idle_0 : decode cX0_idle 0 = .ok (.iconst 0, 1) := by decide +kernel
theorem dX0_idle_1 : decode cX0_idle 1 = .ok (.istore_n 3, 1) := by decide +kernel
theorem dX0_idle_2 : decode cX0_idle 2 = .ok (.iload_n 3, 1) := by decide +kernel
theorem dX0_idle_3 : decode cX0_idle 3 = .ok (.iload_n 2, 1) := by decide +kernel
theorem dX0_idle_4 : decode cX0_idle 4 = .ok (.if_icmp .ge 16, 3) := by decide +kernel
theorem dX0_idle_7 : decode cX0_idle 7 = .ok (.aload_n 0, 1) := by decide +kernel
theorem dX0_idle_8 : decode cX0_idle 8 = .ok (.aload_n 1, 1) := by decide +kernel
theorem dX0_idle_9 : decode cX0_idle 9 = .ok (.iconst 0, 1) := by decide +kernel
theorem dX0_idle_10 : decode cX0_idle 10 = .ok (.iconst 0, 1) := by decide +kernel
theorem dX0_idle_11 : decode cX0_idle 11 = .ok (.invokevirtual 73, 3) := by decide +kernel
theorem dX0_idle_14 : decode cX0_idle 14 = .ok (.iinc 3 1, 3) := by decide +kernel
theorem dX0_idle_17 : decode cX0_idle 17 = .ok (.goto (-15), 3) := by decide +kernel
theorem dX0_idle_20 : decode cX0_idle 20 = .ok (.return_, 1) := by decide +kernel
theorem dX0_turn_0 : decode cX0_turn 0 = .ok (.aload_n 0, 1) := by decide +kernel
theorem dX0_turn_1 : decode cX0_turn 1 = .ok (.aload_n 1, 1) := by decide +kernel
theorem dX0_turn_2 : decode cX0_turn 2 = .ok (.iload_n 2, 1) := by decide +kernel
theorem dX0_turn_3 : decode cX0_turn 3 = .ok (.iload_n 3, 1) := by decide +kernel
theorem dX0_turn_4 : decode cX0_turn 4 = .ok (.aload_n 1, 1) := by decide +kernel
theorem dX0_turn_5 : decode cX0_turn 5 = .ok (.aload_n 0, 1) := by decide +kernel
theorem dX0_turn_6 : decode cX0_turn 6 = .ok (.getfield 29, 3) := by decide +kernel
theorem dX0_turn_9 : decode cX0_turn 9 = .ok (.invokevirtual 77, 3) := by decide +kernel
theorem dX0_turn_12 : decode cX0_turn 12 = .ok (.invokevirtual 81, 3) := by decide +kernel
theorem dX0_turn_15 : decode cX0_turn 15 = .ok (.return_, 1) := by decide +kernel
theorem dX0_turnBy_0 : decode cX0_turnBy 0 = .ok (.aload_n 0, 1) := by decide +kernel
theorem dX0_turnBy_1 : decode cX0_turnBy 1 = .ok (.aload_n 1, 1) := by decide +kernel
theorem dX0_turnBy_2 : decode cX0_turnBy 2 = .ok (.invokevirtual 85, 3) := by decide +kernel
theorem dX0_turnBy_5 : decode cX0_turnBy 5 = .ok (.bipush (-4), 2) := by decide +kernel
theorem dX0_turnBy_7 : decode cX0_turnBy 7 = .ok (.if_icmp .eq 4, 3) := by decide +kernel
theorem dX0_turnBy_10 : decode cX0_turnBy 10 = .ok (.return_, 1) := by decide +kernel
theorem dX0_turnBy_11 : decode cX0_turnBy 11 = .ok (.aload_n 0, 1) := by decide +kernel
theorem dX0_turnBy_12 : decode cX0_turnBy 12 = .ok (.aload_n 0, 1) := by decide +kernel
theorem dX0_turnBy_13 : decode cX0_turnBy 13 = .ok (.getfield 12, 3) := by decide +kernel
theorem dX0_turnBy_16 : decode cX0_turnBy 16 = .ok (.iload_n 2, 1) := by decide +kernel
theorem dX0_turnBy_17 : decode cX0_turnBy 17 = .ok (.invokevirtual 89, 3) := by decide +kernel
theorem dX0_turnBy_20 : decode cX0_turnBy 20 = .ok (.aload_n 0, 1) := by decide +kernel
theorem dX0_turnBy_21 : decode cX0_turnBy 21 = .ok (.aload_n 0, 1) := by decide +kernel
theorem dX0_turnBy_22 : decode cX0_turnBy 22 = .ok (.getfield 18, 3) := by decide +kernel
theorem dX0_turnBy_25 : decode cX0_turnBy 25 = .ok (.iload_n 3, 1) := by decide +kernel
theorem dX0_turnBy_26 : decode cX0_turnBy 26 = .ok (.invokevirtual 89, 3) := by decide +kernel
theorem dX0_turnBy_29 : decode cX0_turnBy 29 = .ok (.aload_n 0, 1) := by decide +kernel
theorem dX0_turnBy_30 : decode cX0_turnBy 30 = .ok (.getfield 12, 3) := by decide +kernel
theorem dX0_turnBy_33 : decode cX0_turnBy 33 = .ok (.aload_n 0, 1) := by decide +kernel
theorem dX0_turnBy_34 : decode cX0_turnBy 34 = .ok (.getfield 29, 3) := by decide +kernel
theorem dX0_turnBy_37 : decode cX0_turnBy 37 = .ok (.iload 4, 2) := by decide +kernel
theorem dX0_turnBy_39 : decode cX0_turnBy 39 = .ok (.invokevirtual 93, 3) := by decide +kernel
theorem dX0_turnBy_42 : decode cX0_turnBy 42 = .ok (.aload_n 0, 1) := by decide +kernel
theorem dX0_turnBy_43 : decode cX0_turnBy 43 = .ok (.getfield 18, 3) := by decide +kernel
theorem dX0_turnBy_46 : decode cX0_turnBy 46 = .ok (.aload_n 0, 1) := by decide +kernel
theorem dX0_turnBy_47 : decode cX0_turnBy 47 = .ok (.getfield 29, 3) := by decide +kernel
theorem dX0_turnBy_50 : decode cX0_turnBy 50 = .ok (.iload 4, 2) := by decide +kernel
theorem dX0_turnBy_52 : decode cX0_turnBy 52 = .ok (.invokevirtual 93, 3) := by decide +kernel
theorem dX0_turnBy_55 : decode cX0_turnBy 55 = .ok (.aload_n 1, 1) := by decide +kernel
theorem dX0_turnBy_56 : decode cX0_turnBy 56 = .ok (.aload_n 0, 1) := by decide +kernel
theorem dX0_turnBy_57 : decode cX0_turnBy 57 = .ok (.getfield 29, 3) := by decide +kernel
theorem dX0_turnBy_60 : decode cX0_turnBy 60 = .ok (.invokevirtual 97, 3) := by decide +kernel
theorem dX0_turnBy_63 : decode cX0_turnBy 63 = .ok (.istore 5, 2) := by decide +kernel
theorem dX0_turnBy_65 : decode cX0_turnBy 65 = .ok (.aload_n 0, 1) := by decide +kernel
theorem dX0_turnBy_66 : decode cX0_turnBy 66 = .ok (.getfield 12, 3) := by decide +kernel
theorem dX0_turnBy_69 : decode cX0_turnBy 69 = .ok (.aload_n 0, 1) := by decide +kernel
theorem dX0_turnBy_70 : decode cX0_turnBy 70 = .ok (.iconst 0, 1) := by decide +kernel
theorem dX0_turnBy_71 : decode cX0_turnBy 71 = .ok (.iload 5, 2) := by decide +kernel
theorem dX0_turnBy_73 : decode cX0_turnBy 73 = .ok (.aload_n 1, 1) := by decide +kernel
theorem dX0_turnBy_74 : decode cX0_turnBy 74 = .ok (.getfield 100, 3) := by decide +kernel
theorem dX0_turnBy_77 : decode cX0_turnBy 77 = .ok (.invokevirtual 103, 3) := by decide +kernel
theorem dX0_turnBy_80 : decode cX0_turnBy 80 = .ok (.ifCond .eq 15, 3) := by decide +kernel
theorem dX0_turnBy_83 : decode cX0_turnBy 83 = .ok (.aload_n 0, 1) := by decide +kernel
theorem dX0_turnBy_84 : decode cX0_turnBy 84 = .ok (.getfield 12, 3) := by decide +kernel
theorem dX0_turnBy_87 : decode cX0_turnBy 87 = .ok (.getfield 51, 3) := by decide +kernel
theorem dX0_turnBy_90 : decode cX0_turnBy 90 = .ok (.iconst 1, 1) := by decide +kernel
theorem dX0_turnBy_91 : decode cX0_turnBy 91 = .ok (.iadd, 1) := by decide +kernel
theorem dX0_turnBy_92 : decode cX0_turnBy 92 = .ok (.goto 4, 3) := by decide +kernel
theorem dX0_turnBy_95 : decode cX0_turnBy 95 = .ok (.iconst 0, 1) := by decide +kernel
theorem dX0_turnBy_96 : decode cX0_turnBy 96 = .ok (.putfield 51, 3) := by decide +kernel
theorem dX0_turnBy_99 : decode cX0_turnBy 99 = .ok (.aload_n 0, 1) := by decide +kernel
theorem dX0_turnBy_100 : decode cX0_turnBy 100 = .ok (.getfield 18, 3) := by decide +kernel
theorem dX0_turnBy_103 : decode cX0_turnBy 103 = .ok (.aload_n 0, 1) := by decide +kernel
theorem dX0_turnBy_104 : decode cX0_turnBy 104 = .ok (.iconst 1, 1) := by decide +kernel
theorem dX0_turnBy_105 : decode cX0_turnBy 105 = .ok (.iload 5, 2) := by decide +kernel
theorem dX0_turnBy_107 : decode cX0_turnBy 107 = .ok (.aload_n 1, 1) := by decide +kernel
theorem dX0_turnBy_108 : decode cX0_turnBy 108 = .ok (.getfield 100, 3) := by decide +kernel
theorem dX0_turnBy_111 : decode cX0_turnBy 111 = .ok (.invokevirtual 103, 3) := by decide +kernel
theorem dX0_turnBy_114 : decode cX0_turnBy 114 = .ok (.ifCond .eq 15, 3) := by decide +kernel
theorem dX0_turnBy_117 : decode cX0_turnBy 117 = .ok (.aload_n 0, 1) := by decide +kernel
theorem dX0_turnBy_118 : decode cX0_turnBy 118 = .ok (.getfield 18, 3) := by decide +kernel
theorem dX0_turnBy_121 : decode cX0_turnBy 121 = .ok (.getfield 51, 3) := by decide +kernel
theorem dX0_turnBy_124 : decode cX0_turnBy 124 = .ok (.iconst 1, 1) := by decide +kernel
theorem dX0_turnBy_125 : decode cX0_turnBy 125 = .ok (.iadd, 1) := by decide +kernel
theorem dX0_turnBy_126 : decode cX0_turnBy 126 = .ok (.goto 4, 3) := by decide +kernel
theorem dX0_turnBy_129 : decode cX0_turnBy 129 = .ok (.iconst 0, 1) := by decide +kernel
theorem dX0_turnBy_130 : decode cX0_turnBy 130 = .ok (.putfield 51, 3) := by decide +kernel
theorem dX0_turnBy_133 : decode cX0_turnBy 133 = .ok (.aload_n 0, 1) := by decide +kernel
theorem dX0_turnBy_134 : decode cX0_turnBy 134 = .ok (.dup, 1) := by decide +kernel
theorem dX0_turnBy_135 : decode cX0_turnBy 135 = .ok (.getfield 29, 3) := by decide +kernel
theorem dX0_turnBy_138 : decode cX0_turnBy 138 = .ok (.iconst 1, 1) := by decide +kernel
theorem dX0_turnBy_139 : decode cX0_turnBy 139 = .ok (.iadd, 1) := by decide +kernel
theorem dX0_turnBy_140 : decode cX0_turnBy 140 = .ok (.putfield 29, 3) := by decide +kernel
theorem dX0_turnBy_143 : decode cX0_turnBy 143 = .ok (.return_, 1) := by decide +kernel
theorem dX0_tend_0 : decode cX0_tend 0 = .ok (.aload_n 1, 1) := by decide +kernel
theorem dX0_tend_1 : decode cX0_tend 1 = .ok (.iconst 0, 1) := by decide +kernel
theorem dX0_tend_2 : decode cX0_tend 2 = .ok (.putfield 107, 3) := by decide +kernel
theorem dX0_tend_5 : decode cX0_tend 5 = .ok (.aload_n 1, 1) := by decide +kernel
theorem dX0_tend_6 : decode cX0_tend 6 = .ok (.iconst 0, 1) := by decide +kernel
theorem dX0_tend_7 : decode cX0_tend 7 = .ok (.putfield 110, 3) := by decide +kernel
theorem dX0_tend_10 : decode cX0_tend 10 = .ok (.iload_n 2, 1) := by decide +kernel
theorem dX0_tend_11 : decode cX0_tend 11 = .ok (.iconst 1, 1) := by decide +kernel
theorem dX0_tend_12 : decode cX0_tend 12 = .ok (.if_icmp .ne 20, 3) := by decide +kernel
theorem dX0_tend_15 : decode cX0_tend 15 = .ok (.aload_n 1, 1) := by decide +kernel
theorem dX0_tend_16 : decode cX0_tend 16 = .ok (.iconst 0, 1) := by decide +kernel
theorem dX0_tend_17 : decode cX0_tend 17 = .ok (.aload_n 1, 1) := by decide +kernel
theorem dX0_tend_18 : decode cX0_tend 18 = .ok (.getfield 63, 3) := by decide +kernel
theorem dX0_tend_21 : decode cX0_tend 21 = .ok (.iconst 2, 1) := by decide +kernel
theorem dX0_tend_22 : decode cX0_tend 22 = .ok (.isub, 1) := by decide +kernel
theorem dX0_tend_23 : decode cX0_tend 23 = .ok (.invokestatic 114, 3) := by decide +kernel
theorem dX0_tend_26 : decode cX0_tend 26 = .ok (.putfield 63, 3) := by decide +kernel
theorem dX0_tend_29 : decode cX0_tend 29 = .ok (.goto 105, 3) := by decide +kernel
theorem dX0_tend_32 : decode cX0_tend 32 = .ok (.iload_n 2, 1) := by decide +kernel
theorem dX0_tend_33 : decode cX0_tend 33 = .ok (.iconst 4, 1) := by decide +kernel
theorem dX0_tend_34 : decode cX0_tend 34 = .ok (.if_icmp .ne 20, 3) := by decide +kernel
theorem dX0_tend_37 : decode cX0_tend 37 = .ok (.aload_n 1, 1) := by decide +kernel
theorem dX0_tend_38 : decode cX0_tend 38 = .ok (.iconst 3, 1) := by decide +kernel
theorem dX0_tend_39 : decode cX0_tend 39 = .ok (.aload_n 1, 1) := by decide +kernel
theorem dX0_tend_40 : decode cX0_tend 40 = .ok (.getfield 70, 3) := by decide +kernel
theorem dX0_tend_43 : decode cX0_tend 43 = .ok (.iconst 1, 1) := by decide +kernel
theorem dX0_tend_44 : decode cX0_tend 44 = .ok (.iadd, 1) := by decide +kernel
theorem dX0_tend_45 : decode cX0_tend 45 = .ok (.invokestatic 120, 3) := by decide +kernel
theorem dX0_tend_48 : decode cX0_tend 48 = .ok (.putfield 70, 3) := by decide +kernel
theorem dX0_tend_51 : decode cX0_tend 51 = .ok (.goto 83, 3) := by decide +kernel
theorem dX0_tend_54 : decode cX0_tend 54 = .ok (.iload_n 2, 1) := by decide +kernel
theorem dX0_tend_55 : decode cX0_tend 55 = .ok (.iconst 2, 1) := by decide +kernel
theorem dX0_tend_56 : decode cX0_tend 56 = .ok (.if_icmp .ne 28, 3) := by decide +kernel
theorem dX0_tend_59 : decode cX0_tend 59 = .ok (.aload_n 1, 1) := by decide +kernel
theorem dX0_tend_60 : decode cX0_tend 60 = .ok (.getfield 123, 3) := by decide +kernel
theorem dX0_tend_63 : decode cX0_tend 63 = .ok (.iconst 3, 1) := by decide +kernel
theorem dX0_tend_64 : decode cX0_tend 64 = .ok (.if_icmp .lt 20, 3) := by decide +kernel
theorem dX0_tend_67 : decode cX0_tend 67 = .ok (.aload_n 1, 1) := by decide +kernel
theorem dX0_tend_68 : decode cX0_tend 68 = .ok (.dup, 1) := by decide +kernel
theorem dX0_tend_69 : decode cX0_tend 69 = .ok (.getfield 123, 3) := by decide +kernel
theorem dX0_tend_72 : decode cX0_tend 72 = .ok (.iconst 3, 1) := by decide +kernel
theorem dX0_tend_73 : decode cX0_tend 73 = .ok (.isub, 1) := by decide +kernel
theorem dX0_tend_74 : decode cX0_tend 74 = .ok (.putfield 123, 3) := by decide +kernel
theorem dX0_tend_77 : decode cX0_tend 77 = .ok (.aload_n 1, 1) := by decide +kernel
theorem dX0_tend_78 : decode cX0_tend 78 = .ok (.invokevirtual 126, 3) := by decide +kernel
theorem dX0_tend_81 : decode cX0_tend 81 = .ok (.goto 53, 3) := by decide +kernel
theorem dX0_tend_84 : decode cX0_tend 84 = .ok (.iload_n 2, 1) := by decide +kernel
theorem dX0_tend_85 : decode cX0_tend 85 = .ok (.iconst 3, 1) := by decide +kernel
theorem dX0_tend_86 : decode cX0_tend 86 = .ok (.if_icmp .ne 48, 3) := by decide +kernel
theorem dX0_tend_89 : decode cX0_tend 89 = .ok (.aload_n 1, 1) := by decide +kernel
theorem dX0_tend_90 : decode cX0_tend 90 = .ok (.getfield 123, 3) := by decide +kernel
theorem dX0_tend_93 : decode cX0_tend 93 = .ok (.iconst 1, 1) := by decide +kernel
theorem dX0_tend_94 : decode cX0_tend 94 = .ok (.if_icmp .lt 40, 3) := by decide +kernel
theorem dX0_tend_97 : decode cX0_tend 97 = .ok (.aload_n 0, 1) := by decide +kernel
theorem dX0_tend_98 : decode cX0_tend 98 = .ok (.getfield 25, 3) := by decide +kernel
theorem dX0_tend_101 : decode cX0_tend 101 = .ok (.ifCond .le 33, 3) := by decide +kernel
theorem dX0_tend_104 : decode cX0_tend 104 = .ok (.aload_n 1, 1) := by decide +kernel
theorem dX0_tend_105 : decode cX0_tend 105 = .ok (.dup, 1) := by decide +kernel
theorem dX0_tend_106 : decode cX0_tend 106 = .ok (.getfield 123, 3) := by decide +kernel
theorem dX0_tend_109 : decode cX0_tend 109 = .ok (.iconst 1, 1) := by decide +kernel
theorem dX0_tend_110 : decode cX0_tend 110 = .ok (.isub, 1) := by decide +kernel
theorem dX0_tend_111 : decode cX0_tend 111 = .ok (.putfield 123, 3) := by decide +kernel
theorem dX0_tend_114 : decode cX0_tend 114 = .ok (.aload_n 0, 1) := by decide +kernel
theorem dX0_tend_115 : decode cX0_tend 115 = .ok (.dup, 1) := by decide +kernel
theorem dX0_tend_116 : decode cX0_tend 116 = .ok (.getfield 25, 3) := by decide +kernel
theorem dX0_tend_119 : decode cX0_tend 119 = .ok (.iconst 1, 1) := by decide +kernel
theorem dX0_tend_120 : decode cX0_tend 120 = .ok (.isub, 1) := by decide +kernel
theorem dX0_tend_121 : decode cX0_tend 121 = .ok (.putfield 25, 3) := by decide +kernel
theorem dX0_tend_124 : decode cX0_tend 124 = .ok (.aload_n 1, 1) := by decide +kernel
theorem dX0_tend_125 : decode cX0_tend 125 = .ok (.iconst 1, 1) := by decide +kernel
theorem dX0_tend_126 : decode cX0_tend 126 = .ok (.putfield 107, 3) := by decide +kernel
theorem dX0_tend_129 : decode cX0_tend 129 = .ok (.aload_n 1, 1) := by decide +kernel
theorem dX0_tend_130 : decode cX0_tend 130 = .ok (.iconst 1, 1) := by decide +kernel
theorem dX0_tend_131 : decode cX0_tend 131 = .ok (.putfield 110, 3) := by decide +kernel
theorem dX0_tend_134 : decode cX0_tend 134 = .ok (.return_, 1) := by decide +kernel
theorem dX1_init_0 : decode cX1_init 0 = .ok (.aload_n 0, 1) := by decide +kernel
theorem dX1_init_1 : decode cX1_init 1 = .ok (.invokespecial 3, 3) := by decide +kernel
theorem dX1_init_4 : decode cX1_init 4 = .ok (.return_, 1) := by decide +kernel
theorem dX1_begin_0 : decode cX1_begin 0 = .ok (.aload_n 0, 1) := by decide +kernel
theorem dX1_begin_1 : decode cX1_begin 1 = .ok (.iload_n 1, 1) := by decide +kernel
theorem dX1_begin_2 : decode cX1_begin 2 = .ok (.putfield 9, 3) := by decide +kernel
theorem dX1_begin_5 : decode cX1_begin 5 = .ok (.aload_n 0, 1) := by decide +kernel
theorem dX1_begin_6 : decode cX1_begin 6 = .ok (.iload_n 2, 1) := by decide +kernel
theorem dX1_begin_7 : decode cX1_begin 7 = .ok (.putfield 15, 3) := by decide +kernel
theorem dX1_begin_10 : decode cX1_begin 10 = .ok (.aload_n 0, 1) := by decide +kernel
theorem dX1_begin_11 : decode cX1_begin 11 = .ok (.iload_n 3, 1) := by decide +kernel
theorem dX1_begin_12 : decode cX1_begin 12 = .ok (.putfield 18, 3) := by decide +kernel
theorem dX1_begin_15 : decode cX1_begin 15 = .ok (.aload_n 0, 1) := by decide +kernel
theorem dX1_begin_16 : decode cX1_begin 16 = .ok (.iconst 0, 1) := by decide +kernel
theorem dX1_begin_17 : decode cX1_begin 17 = .ok (.putfield 21, 3) := by decide +kernel
theorem dX1_begin_20 : decode cX1_begin 20 = .ok (.aload_n 0, 1) := by decide +kernel
theorem dX1_begin_21 : decode cX1_begin 21 = .ok (.iconst 0, 1) := by decide +kernel
theorem dX1_begin_22 : decode cX1_begin 22 = .ok (.putfield 24, 3) := by decide +kernel
theorem dX1_begin_25 : decode cX1_begin 25 = .ok (.return_, 1) := by decide +kernel
theorem dX1_copy_0 : decode cX1_copy 0 = .ok (.aload_n 0, 1) := by decide +kernel
theorem dX1_copy_1 : decode cX1_copy 1 = .ok (.aload_n 1, 1) := by decide +kernel
theorem dX1_copy_2 : decode cX1_copy 2 = .ok (.getfield 9, 3) := by decide +kernel
theorem dX1_copy_5 : decode cX1_copy 5 = .ok (.putfield 9, 3) := by decide +kernel
theorem dX1_copy_8 : decode cX1_copy 8 = .ok (.aload_n 0, 1) := by decide +kernel
theorem dX1_copy_9 : decode cX1_copy 9 = .ok (.aload_n 1, 1) := by decide +kernel
theorem dX1_copy_10 : decode cX1_copy 10 = .ok (.getfield 15, 3) := by decide +kernel
theorem dX1_copy_13 : decode cX1_copy 13 = .ok (.putfield 15, 3) := by decide +kernel
theorem dX1_copy_16 : decode cX1_copy 16 = .ok (.aload_n 0, 1) := by decide +kernel
theorem dX1_copy_17 : decode cX1_copy 17 = .ok (.aload_n 1, 1) := by decide +kernel
theorem dX1_copy_18 : decode cX1_copy 18 = .ok (.getfield 21, 3) := by decide +kernel
theorem dX1_copy_21 : decode cX1_copy 21 = .ok (.putfield 21, 3) := by decide +kernel
theorem dX1_copy_24 : decode cX1_copy 24 = .ok (.aload_n 0, 1) := by decide +kernel
theorem dX1_copy_25 : decode cX1_copy 25 = .ok (.aload_n 1, 1) := by decide +kernel
theorem dX1_copy_26 : decode cX1_copy 26 = .ok (.getfield 18, 3) := by decide +kernel
theorem dX1_copy_29 : decode cX1_copy 29 = .ok (.putfield 18, 3) := by decide +kernel
theorem dX1_copy_32 : decode cX1_copy 32 = .ok (.aload_n 0, 1) := by decide +kernel
theorem dX1_copy_33 : decode cX1_copy 33 = .ok (.aload_n 1, 1) := by decide +kernel
theorem dX1_copy_34 : decode cX1_copy 34 = .ok (.getfield 24, 3) := by decide +kernel
theorem dX1_copy_37 : decode cX1_copy 37 = .ok (.putfield 24, 3) := by decide +kernel
theorem dX1_copy_40 : decode cX1_copy 40 = .ok (.return_, 1) := by decide +kernel
theorem dX1_store_0 : decode cX1_store 0 = .ok (.aload_n 1, 1) := by decide +kernel
theorem dX1_store_1 : decode cX1_store 1 = .ok (.iload_n 2, 1) := by decide +kernel
theorem dX1_store_2 : decode cX1_store 2 = .ok (.aload_n 0, 1) := by decide +kernel
theorem dX1_store_3 : decode cX1_store 3 = .ok (.getfield 9, 3) := by decide +kernel
theorem dX1_store_6 : decode cX1_store 6 = .ok (.invokestatic 27, 3) := by decide +kernel
theorem dX1_store_9 : decode cX1_store 9 = .ok (.aload_n 1, 1) := by decide +kernel
theorem dX1_store_10 : decode cX1_store 10 = .ok (.iload_n 2, 1) := by decide +kernel
theorem dX1_store_11 : decode cX1_store 11 = .ok (.iconst 1, 1) := by decide +kernel
theorem dX1_store_12 : decode cX1_store 12 = .ok (.iadd, 1) := by decide +kernel
theorem dX1_store_13 : decode cX1_store 13 = .ok (.aload_n 0, 1) := by decide +kernel
theorem dX1_store_14 : decode cX1_store 14 = .ok (.getfield 15, 3) := by decide +kernel
theorem dX1_store_17 : decode cX1_store 17 = .ok (.invokestatic 27, 3) := by decide +kernel
theorem dX1_store_20 : decode cX1_store 20 = .ok (.aload_n 1, 1) := by decide +kernel
theorem dX1_store_21 : decode cX1_store 21 = .ok (.iload_n 2, 1) := by decide +kernel
theorem dX1_store_22 : decode cX1_store 22 = .ok (.iconst 2, 1) := by decide +kernel
theorem dX1_store_23 : decode cX1_store 23 = .ok (.iadd, 1) := by decide +kernel
theorem dX1_store_24 : decode cX1_store 24 = .ok (.aload_n 0, 1) := by decide +kernel
theorem dX1_store_25 : decode cX1_store 25 = .ok (.getfield 21, 3) := by decide +kernel
theorem dX1_store_28 : decode cX1_store 28 = .ok (.invokestatic 27, 3) := by decide +kernel
theorem dX1_store_31 : decode cX1_store 31 = .ok (.aload_n 1, 1) := by decide +kernel
theorem dX1_store_32 : decode cX1_store 32 = .ok (.iload_n 2, 1) := by decide +kernel
theorem dX1_store_33 : decode cX1_store 33 = .ok (.iconst 3, 1) := by decide +kernel
theorem dX1_store_34 : decode cX1_store 34 = .ok (.iadd, 1) := by decide +kernel
theorem dX1_store_35 : decode cX1_store 35 = .ok (.aload_n 0, 1) := by decide +kernel
theorem dX1_store_36 : decode cX1_store 36 = .ok (.getfield 18, 3) := by decide +kernel
theorem dX1_store_39 : decode cX1_store 39 = .ok (.invokestatic 27, 3) := by decide +kernel
theorem dX1_store_42 : decode cX1_store 42 = .ok (.aload_n 1, 1) := by decide +kernel
theorem dX1_store_43 : decode cX1_store 43 = .ok (.iload_n 2, 1) := by decide +kernel
theorem dX1_store_44 : decode cX1_store 44 = .ok (.iconst 4, 1) := by decide +kernel
theorem dX1_store_45 : decode cX1_store 45 = .ok (.iadd, 1) := by decide +kernel
theorem dX1_store_46 : decode cX1_store 46 = .ok (.aload_n 0, 1) := by decide +kernel
theorem dX1_store_47 : decode cX1_store 47 = .ok (.getfield 24, 3) := by decide +kernel
theorem dX1_store_50 : decode cX1_store 50 = .ok (.invokestatic 27, 3) := by decide +kernel
theorem dX1_store_53 : decode cX1_store 53 = .ok (.return_, 1) := by decide +kernel
theorem dX1_restore_0 : decode cX1_restore 0 = .ok (.aload_n 0, 1) := by decide +kernel
theorem dX1_restore_1 : decode cX1_restore 1 = .ok (.aload_n 1, 1) := by decide +kernel
theorem dX1_restore_2 : decode cX1_restore 2 = .ok (.iload_n 2, 1) := by decide +kernel
theorem dX1_restore_3 : decode cX1_restore 3 = .ok (.invokestatic 31, 3) := by decide +kernel
theorem dX1_restore_6 : decode cX1_restore 6 = .ok (.putfield 9, 3) := by decide +kernel
theorem dX1_restore_9 : decode cX1_restore 9 = .ok (.aload_n 0, 1) := by decide +kernel
theorem dX1_restore_10 : decode cX1_restore 10 = .ok (.aload_n 1, 1) := by decide +kernel
theorem dX1_restore_11 : decode cX1_restore 11 = .ok (.iload_n 2, 1) := by decide +kernel
theorem dX1_restore_12 : decode cX1_restore 12 = .ok (.iconst 1, 1) := by decide +kernel
theorem dX1_restore_13 : decode cX1_restore 13 = .ok (.iadd, 1) := by decide +kernel
theorem dX1_restore_14 : decode cX1_restore 14 = .ok (.invokestatic 31, 3) := by decide +kernel
theorem dX1_restore_17 : decode cX1_restore 17 = .ok (.putfield 15, 3) := by decide +kernel
theorem dX1_restore_20 : decode cX1_restore 20 = .ok (.aload_n 0, 1) := by decide +kernel
theorem dX1_restore_21 : decode cX1_restore 21 = .ok (.aload_n 1, 1) := by decide +kernel
theorem dX1_restore_22 : decode cX1_restore 22 = .ok (.iload_n 2, 1) := by decide +kernel
theorem dX1_restore_23 : decode cX1_restore 23 = .ok (.iconst 2, 1) := by decide +kernel
theorem dX1_restore_24 : decode cX1_restore 24 = .ok (.iadd, 1) := by decide +kernel
theorem dX1_restore_25 : decode cX1_restore 25 = .ok (.invokestatic 31, 3) := by decide +kernel
theorem dX1_restore_28 : decode cX1_restore 28 = .ok (.putfield 21, 3) := by decide +kernel
theorem dX1_restore_31 : decode cX1_restore 31 = .ok (.aload_n 0, 1) := by decide +kernel
theorem dX1_restore_32 : decode cX1_restore 32 = .ok (.aload_n 1, 1) := by decide +kernel
theorem dX1_restore_33 : decode cX1_restore 33 = .ok (.iload_n 2, 1) := by decide +kernel
theorem dX1_restore_34 : decode cX1_restore 34 = .ok (.iconst 3, 1) := by decide +kernel
theorem dX1_restore_35 : decode cX1_restore 35 = .ok (.iadd, 1) := by decide +kernel
theorem dX1_restore_36 : decode cX1_restore 36 = .ok (.invokestatic 31, 3) := by decide +kernel
theorem dX1_restore_39 : decode cX1_restore 39 = .ok (.putfield 18, 3) := by decide +kernel
theorem dX1_restore_42 : decode cX1_restore 42 = .ok (.aload_n 0, 1) := by decide +kernel
theorem dX1_restore_43 : decode cX1_restore 43 = .ok (.aload_n 1, 1) := by decide +kernel
theorem dX1_restore_44 : decode cX1_restore 44 = .ok (.iload_n 2, 1) := by decide +kernel
theorem dX1_restore_45 : decode cX1_restore 45 = .ok (.iconst 4, 1) := by decide +kernel
theorem dX1_restore_46 : decode cX1_restore 46 = .ok (.iadd, 1) := by decide +kernel
theorem dX1_restore_47 : decode cX1_restore 47 = .ok (.invokestatic 31, 3) := by decide +kernel
theorem dX1_restore_50 : decode cX1_restore 50 = .ok (.putfield 24, 3) := by decide +kernel
theorem dX1_restore_53 : decode cX1_restore 53 = .ok (.return_, 1) := by decide +kernel
theorem dX1_shadowLength_0 : decode cX1_shadowLength 0 = .ok (.aload_n 0, 1) := by decide +kernel
theorem dX1_shadowLength_1 : decode cX1_shadowLength 1 = .ok (.getfield 15, 3) := by decide +kernel
theorem dX1_shadowLength_4 : decode cX1_shadowLength 4 = .ok (.bipush 10, 2) := by decide +kernel
theorem dX1_shadowLength_6 : decode cX1_shadowLength 6 = .ok (.iload_n 1, 1) := by decide +kernel
theorem dX1_shadowLength_7 : decode cX1_shadowLength 7 = .ok (.isub, 1) := by decide +kernel
theorem dX1_shadowLength_8 : decode cX1_shadowLength 8 = .ok (.imul, 1) := by decide +kernel
theorem dX1_shadowLength_9 : decode cX1_shadowLength 9 = .ok (.iconst 3, 1) := by decide +kernel
theorem dX1_shadowLength_10 : decode cX1_shadowLength 10 = .ok (.idiv, 1) := by decide +kernel
theorem dX1_shadowLength_11 : decode cX1_shadowLength 11 = .ok (.ireturn, 1) := by decide +kernel
theorem dX1_takeDung_0 : decode cX1_takeDung 0 = .ok (.aload_n 0, 1) := by decide +kernel
theorem dX1_takeDung_1 : decode cX1_takeDung 1 = .ok (.getfield 15, 3) := by decide +kernel
theorem dX1_takeDung_4 : decode cX1_takeDung 4 = .ok (.iconst 3, 1) := by decide +kernel
theorem dX1_takeDung_5 : decode cX1_takeDung 5 = .ok (.if_icmp .lt 11, 3) := by decide +kernel
theorem dX1_takeDung_8 : decode cX1_takeDung 8 = .ok (.aload_n 0, 1) := by decide +kernel
theorem dX1_takeDung_9 : decode cX1_takeDung 9 = .ok (.iconst 2, 1) := by decide +kernel
theorem dX1_takeDung_10 : decode cX1_takeDung 10 = .ok (.putfield 35, 3) := by decide +kernel
theorem dX1_takeDung_13 : decode cX1_takeDung 13 = .ok (.goto 17, 3) := by decide +kernel
theorem dX1_takeDung_16 : decode cX1_takeDung 16 = .ok (.aload_n 0, 1) := by decide +kernel
theorem dX1_takeDung_17 : decode cX1_takeDung 17 = .ok (.iconst 0, 1) := by decide +kernel
theorem dX1_takeDung_18 : decode cX1_takeDung 18 = .ok (.aload_n 0, 1) := by decide +kernel
theorem dX1_takeDung_19 : decode cX1_takeDung 19 = .ok (.getfield 15, 3) := by decide +kernel
theorem dX1_takeDung_22 : decode cX1_takeDung 22 = .ok (.iconst 1, 1) := by decide +kernel
theorem dX1_takeDung_23 : decode cX1_takeDung 23 = .ok (.isub, 1) := by decide +kernel
theorem dX1_takeDung_24 : decode cX1_takeDung 24 = .ok (.invokestatic 38, 3) := by decide +kernel
theorem dX1_takeDung_27 : decode cX1_takeDung 27 = .ok (.putfield 15, 3) := by decide +kernel
theorem dX1_takeDung_30 : decode cX1_takeDung 30 = .ok (.return_, 1) := by decide +kernel
theorem dX1_grow_0 : decode cX1_grow 0 = .ok (.getstatic 44, 3) := by decide +kernel
theorem dX1_grow_3 : decode cX1_grow 3 = .ok (.aload_n 0, 1) := by decide +kernel
theorem dX1_grow_4 : decode cX1_grow 4 = .ok (.getfield 9, 3) := by decide +kernel
theorem dX1_grow_7 : decode cX1_grow 7 = .ok (.invokestatic 31, 3) := by decide +kernel
theorem dX1_grow_10 : decode cX1_grow 10 = .ok (.istore_n 3, 1) := by decide +kernel
theorem dX1_grow_11 : decode cX1_grow 11 = .ok (.aload_n 0, 1) := by decide +kernel
theorem dX1_grow_12 : decode cX1_grow 12 = .ok (.getfield 15, 3) := by decide +kernel
theorem dX1_grow_15 : decode cX1_grow 15 = .ok (.iload_n 3, 1) := by decide +kernel
theorem dX1_grow_16 : decode cX1_grow 16 = .ok (.if_icmp .gt 14, 3) := by decide +kernel
theorem dX1_grow_19 : decode cX1_grow 19 = .ok (.iload_n 2, 1) := by decide +kernel
theorem dX1_grow_20 : decode cX1_grow 20 = .ok (.ifCond .eq 11, 3) := by decide +kernel
theorem dX1_grow_23 : decode cX1_grow 23 = .ok (.aload_n 0, 1) := by decide +kernel
theorem dX1_grow_24 : decode cX1_grow 24 = .ok (.getfield 48, 3) := by decide +kernel
theorem dX1_grow_27 : decode cX1_grow 27 = .ok (.ifCond .ne 4, 3) := by decide +kernel
theorem dX1_grow_30 : decode cX1_grow 30 = .ok (.return_, 1) := by decide +kernel
theorem dX1_grow_31 : decode cX1_grow 31 = .ok (.iload_n 1, 1) := by decide +kernel
theorem dX1_grow_32 : decode cX1_grow 32 = .ok (.bipush 12, 2) := by decide +kernel
theorem dX1_grow_34 : decode cX1_grow 34 = .ok (.invokestatic 52, 3) := by decide +kernel
theorem dX1_grow_37 : decode cX1_grow 37 = .ok (.istore 4, 2) := by decide +kernel
theorem dX1_grow_39 : decode cX1_grow 39 = .ok (.aload_n 0, 1) := by decide +kernel
theorem dX1_grow_40 : decode cX1_grow 40 = .ok (.getfield 9, 3) := by decide +kernel
theorem dX1_grow_43 : decode cX1_grow 43 = .ok (.iconst 2, 1) := by decide +kernel
theorem dX1_grow_44 : decode cX1_grow 44 = .ok (.if_icmp .ne 20, 3) := by decide +kernel
theorem dX1_grow_47 : decode cX1_grow 47 = .ok (.iload 4, 2) := by decide +kernel
theorem dX1_grow_49 : decode cX1_grow 49 = .ok (.iconst 1, 1) := by decide +kernel
theorem dX1_grow_50 : decode cX1_grow 50 = .ok (.if_icmp .le 10, 3) := by decide +kernel
theorem dX1_grow_53 : decode cX1_grow 53 = .ok (.iload 4, 2) := by decide +kernel
theorem dX1_grow_55 : decode cX1_grow 55 = .ok (.bipush 11, 2) := by decide +kernel
theorem dX1_grow_57 : decode cX1_grow 57 = .ok (.if_icmp .ne 7, 3) := by decide +kernel
theorem dX1_grow_60 : decode cX1_grow 60 = .ok (.iconst 1, 1) := by decide +kernel
theorem dX1_grow_61 : decode cX1_grow 61 = .ok (.goto 4, 3) := by decide +kernel
theorem dX1_grow_64 : decode cX1_grow 64 = .ok (.iconst 0, 1) := by decide +kernel
theorem dX1_grow_65 : decode cX1_grow 65 = .ok (.istore 5, 2) := by decide +kernel
theorem dX1_grow_67 : decode cX1_grow 67 = .ok (.iload 5, 2) := by decide +kernel
theorem dX1_grow_69 : decode cX1_grow 69 = .ok (.ifCond .eq 8, 3) := by decide +kernel
theorem dX1_grow_72 : decode cX1_grow 72 = .ok (.bipush (-2), 2) := by decide +kernel
theorem dX1_grow_74 : decode cX1_grow 74 = .ok (.goto 13, 3) := by decide +kernel
theorem dX1_grow_77 : decode cX1_grow 77 = .ok (.getstatic 55, 3) := by decide +kernel
theorem dX1_grow_80 : decode cX1_grow 80 = .ok (.aload_n 0, 1) := by decide +kernel
theorem dX1_grow_81 : decode cX1_grow 81 = .ok (.getfield 9, 3) := by decide +kernel
theorem dX1_grow_84 : decode cX1_grow 84 = .ok (.invokestatic 31, 3) := by decide +kernel
theorem dX1_grow_87 : decode cX1_grow 87 = .ok (.istore 6, 2) := by decide +kernel
theorem dX1_grow_89 : decode cX1_grow 89 = .ok (.aload_n 0, 1) := by decide +kernel
theorem dX1_grow_90 : decode cX1_grow 90 = .ok (.getfield 15, 3) := by decide +kernel
theorem dX1_grow_93 : decode cX1_grow 93 = .ok (.iload 6, 2) := by decide +kernel
theorem dX1_grow_95 : decode cX1_grow 95 = .ok (.iadd, 1) := by decide +kernel
theorem dX1_grow_96 : decode cX1_grow 96 = .ok (.aload_n 0, 1) := by decide +kernel
theorem dX1_grow_97 : decode cX1_grow 97 = .ok (.getfield 35, 3) := by decide +kernel
theorem dX1_grow_100 : decode cX1_grow 100 = .ok (.iadd, 1) := by decide +kernel
theorem dX1_grow_101 : decode cX1_grow 101 = .ok (.istore 7, 2) := by decide +kernel
theorem dX1_grow_103 : decode cX1_grow 103 = .ok (.aload_n 0, 1) := by decide +kernel
theorem dX1_grow_104 : decode cX1_grow 104 = .ok (.iconst 0, 1) := by decide +kernel
theorem dX1_grow_105 : decode cX1_grow 105 = .ok (.iload_n 3, 1) := by decide +kernel
theorem dX1_grow_106 : decode cX1_grow 106 = .ok (.iload 7, 2) := by decide +kernel
theorem dX1_grow_108 : decode cX1_grow 108 = .ok (.invokestatic 58, 3) := by decide +kernel
theorem dX1_grow_111 : decode cX1_grow 111 = .ok (.invokestatic 38, 3) := by decide +kernel
theorem dX1_grow_114 : decode cX1_grow 114 = .ok (.putfield 15, 3) := by decide +kernel
theorem dX1_grow_117 : decode cX1_grow 117 = .ok (.return_, 1) := by decide +kernel
theorem dX2_init_0 : decode cX2_init 0 = .ok (.aload_n 0, 1) := by decide +kernel
theorem dX2_init_1 : decode cX2_init 1 = .ok (.invokespecial 3, 3) := by decide +kernel
theorem dX2_init_4 : decode cX2_init 4 = .ok (.aload_n 0, 1) := by decide +kernel
theorem dX2_init_5 : decode cX2_init 5 = .ok (.sipush 200, 3) := by decide +kernel
theorem dX2_init_8 : decode cX2_init 8 = .ok (.newarray .int, 2) := by decide +kernel
theorem dX2_init_10 : decode cX2_init 10 = .ok (.putfield 9, 3) := by decide +kernel
theorem dX2_init_13 : decode cX2_init 13 = .ok (.aload_n 0, 1) := by decide +kernel
theorem dX2_init_14 : decode cX2_init 14 = .ok (.iconst 4, 1) := by decide +kernel
theorem dX2_init_15 : decode cX2_init 15 = .ok (.newarray .int, 2) := by decide +kernel
theorem dX2_init_17 : decode cX2_init 17 = .ok (.putfield 15, 3) := by decide +kernel
theorem dX2_init_20 : decode cX2_init 20 = .ok (.return_, 1) := by decide +kernel
theorem dX2_add_0 : decode cX2_add 0 = .ok (.aload_n 0, 1) := by decide +kernel
theorem dX2_add_1 : decode cX2_add 1 = .ok (.getfield 9, 3) := by decide +kernel
theorem dX2_add_4 : decode cX2_add 4 = .ok (.aload_n 0, 1) := by decide +kernel
theorem dX2_add_5 : decode cX2_add 5 = .ok (.getfield 18, 3) := by decide +kernel
theorem dX2_add_8 : decode cX2_add 8 = .ok (.iload_n 1, 1) := by decide +kernel
theorem dX2_add_9 : decode cX2_add 9 = .ok (.invokestatic 22, 3) := by decide +kernel
theorem dX2_add_12 : decode cX2_add 12 = .ok (.aload_n 0, 1) := by decide +kernel
theorem dX2_add_13 : decode cX2_add 13 = .ok (.dup, 1) := by decide +kernel
theorem dX2_add_14 : decode cX2_add 14 = .ok (.getfield 18, 3) := by decide +kernel
theorem dX2_add_17 : decode cX2_add 17 = .ok (.iconst 1, 1) := by decide +kernel
theorem dX2_add_18 : decode cX2_add 18 = .ok (.iadd, 1) := by decide +kernel
theorem dX2_add_19 : decode cX2_add 19 = .ok (.putfield 18, 3) := by decide +kernel
theorem dX2_add_22 : decode cX2_add 22 = .ok (.return_, 1) := by decide +kernel
theorem dX2_letterAt_0 : decode cX2_letterAt 0 = .ok (.iload_n 1, 1) := by decide +kernel
theorem dX2_letterAt_1 : decode cX2_letterAt 1 = .ok (.ifCond .lt 22, 3) := by decide +kernel
theorem dX2_letterAt_4 : decode cX2_letterAt 4 = .ok (.iload_n 1, 1) := by decide +kernel
theorem dX2_letterAt_5 : decode cX2_letterAt 5 = .ok (.aload_n 0, 1) := by decide +kernel
theorem dX2_letterAt_6 : decode cX2_letterAt 6 = .ok (.getfield 18, 3) := by decide +kernel
theorem dX2_letterAt_9 : decode cX2_letterAt 9 = .ok (.if_icmp .ge 14, 3) := by decide +kernel
theorem dX2_letterAt_12 : decode cX2_letterAt 12 = .ok (.aload_n 0, 1) := by decide +kernel
theorem dX2_letterAt_13 : decode cX2_letterAt 13 = .ok (.getfield 9, 3) := by decide +kernel
theorem dX2_letterAt_16 : decode cX2_letterAt 16 = .ok (.iload_n 1, 1) := by decide +kernel
theorem dX2_letterAt_17 : decode cX2_letterAt 17 = .ok (.invokestatic 26, 3) := by decide +kernel
theorem dX2_letterAt_20 : decode cX2_letterAt 20 = .ok (.goto 5, 3) := by decide +kernel
theorem dX2_letterAt_23 : decode cX2_letterAt 23 = .ok (.bipush (-4), 2) := by decide +kernel
theorem dX2_letterAt_25 : decode cX2_letterAt 25 = .ok (.ireturn, 1) := by decide +kernel
theorem dX2_figureAt_0 : decode cX2_figureAt 0 = .ok (.aload_n 0, 1) := by decide +kernel
theorem dX2_figureAt_1 : decode cX2_figureAt 1 = .ok (.iload_n 1, 1) := by decide +kernel
theorem dX2_figureAt_2 : decode cX2_figureAt 2 = .ok (.invokevirtual 30, 3) := by decide +kernel
theorem dX2_figureAt_5 : decode cX2_figureAt 5 = .ok (.istore_n 2, 1) := by decide +kernel
theorem dX2_figureAt_6 : decode cX2_figureAt 6 = .ok (.iload_n 2, 1) := by decide +kernel
theorem dX2_figureAt_7 : decode cX2_figureAt 7 = .ok (.bipush 48, 2) := by decide +kernel
theorem dX2_figureAt_9 : decode cX2_figureAt 9 = .ok (.bipush 57, 2) := by decide +kernel
theorem dX2_figureAt_11 : decode cX2_figureAt 11 = .ok (.invokestatic 34, 3) := by decide +kernel
theorem dX2_figureAt_14 : decode cX2_figureAt 14 = .ok (.ifCond .eq 10, 3) := by decide +kernel
theorem dX2_figureAt_17 : decode cX2_figureAt 17 = .ok (.iload_n 2, 1) := by decide +kernel
theorem dX2_figureAt_18 : decode cX2_figureAt 18 = .ok (.bipush 48, 2) := by decide +kernel
theorem dX2_figureAt_20 : decode cX2_figureAt 20 = .ok (.isub, 1) := by decide +kernel
theorem dX2_figureAt_21 : decode cX2_figureAt 21 = .ok (.goto 5, 3) := by decide +kernel
theorem dX2_figureAt_24 : decode cX2_figureAt 24 = .ok (.bipush (-4), 2) := by decide +kernel
theorem dX2_figureAt_26 : decode cX2_figureAt 26 = .ok (.ireturn, 1) := by decide +kernel
theorem dX2_firstFault_0 : decode cX2_firstFault 0 = .ok (.iconst 0, 1) := by decide +kernel
theorem dX2_firstFault_1 : decode cX2_firstFault 1 = .ok (.istore_n 1, 1) := by decide +kernel
theorem dX2_firstFault_2 : decode cX2_firstFault 2 = .ok (.iload_n 1, 1) := by decide +kernel
theorem dX2_firstFault_3 : decode cX2_firstFault 3 = .ok (.aload_n 0, 1) := by decide +kernel
theorem dX2_firstFault_4 : decode cX2_firstFault 4 = .ok (.getfield 18, 3) := by decide +kernel
theorem dX2_firstFault_7 : decode cX2_firstFault 7 = .ok (.if_icmp .ge 21, 3) := by decide +kernel
theorem dX2_firstFault_10 : decode cX2_firstFault 10 = .ok (.aload_n 0, 1) := by decide +kernel
theorem dX2_firstFault_11 : decode cX2_firstFault 11 = .ok (.iload_n 1, 1) := by decide +kernel
theorem dX2_firstFault_12 : decode cX2_firstFault 12 = .ok (.invokevirtual 38, 3) := by decide +kernel
theorem dX2_firstFault_15 : decode cX2_firstFault 15 = .ok (.istore_n 2, 1) := by decide +kernel
theorem dX2_firstFault_16 : decode cX2_firstFault 16 = .ok (.iload_n 2, 1) := by decide +kernel
theorem dX2_firstFault_17 : decode cX2_firstFault 17 = .ok (.iload_n 1, 1) := by decide +kernel
theorem dX2_firstFault_18 : decode cX2_firstFault 18 = .ok (.if_icmp .gt 5, 3) := by decide +kernel
theorem dX2_firstFault_21 : decode cX2_firstFault 21 = .ok (.iload_n 1, 1) := by decide +kernel
theorem dX2_firstFault_22 : decode cX2_firstFault 22 = .ok (.ireturn, 1) := by decide +kernel
theorem dX2_firstFault_23 : decode cX2_firstFault 23 = .ok (.iload_n 2, 1) := by decide +kernel
theorem dX2_firstFault_24 : decode cX2_firstFault 24 = .ok (.istore_n 1, 1) := by decide +kernel
theorem dX2_firstFault_25 : decode cX2_firstFault 25 = .ok (.goto (-23), 3) := by decide +kernel
theorem dX2_firstFault_28 : decode cX2_firstFault 28 = .ok (.bipush (-4), 2) := by decide +kernel
theorem dX2_firstFault_30 : decode cX2_firstFault 30 = .ok (.ireturn, 1) := by decide +kernel
theorem dX2_readItem_0 : decode cX2_readItem 0 = .ok (.iload_n 1, 1) := by decide +kernel
theorem dX2_readItem_1 : decode cX2_readItem 1 = .ok (.iconst 1, 1) := by decide +kernel
theorem dX2_readItem_2 : decode cX2_readItem 2 = .ok (.iadd, 1) := by decide +kernel
theorem dX2_readItem_3 : decode cX2_readItem 3 = .ok (.istore_n 2, 1) := by decide +kernel
theorem dX2_readItem_4 : decode cX2_readItem 4 = .ok (.aload_n 0, 1) := by decide +kernel
theorem dX2_readItem_5 : decode cX2_readItem 5 = .ok (.iconst 0, 1) := by decide +kernel
theorem dX2_readItem_6 : decode cX2_readItem 6 = .ok (.putfield 41, 3) := by decide +kernel
theorem dX2_readItem_9 : decode cX2_readItem 9 = .ok (.aload_n 0, 1) := by decide +kernel
theorem dX2_readItem_10 : decode cX2_readItem 10 = .ok (.getfield 41, 3) := by decide +kernel
theorem dX2_readItem_13 : decode cX2_readItem 13 = .ok (.iconst 4, 1) := by decide +kernel
theorem dX2_readItem_14 : decode cX2_readItem 14 = .ok (.if_icmp .ge 116, 3) := by decide +kernel
theorem dX2_readItem_17 : decode cX2_readItem 17 = .ok (.aload_n 0, 1) := by decide +kernel
theorem dX2_readItem_18 : decode cX2_readItem 18 = .ok (.iload_n 2, 1) := by decide +kernel
theorem dX2_readItem_19 : decode cX2_readItem 19 = .ok (.invokevirtual 44, 3) := by decide +kernel
theorem dX2_readItem_22 : decode cX2_readItem 22 = .ok (.istore_n 3, 1) := by decide +kernel
theorem dX2_readItem_23 : decode cX2_readItem 23 = .ok (.iload_n 3, 1) := by decide +kernel
theorem dX2_readItem_24 : decode cX2_readItem 24 = .ok (.bipush (-4), 2) := by decide +kernel
theorem dX2_readItem_26 : decode cX2_readItem 26 = .ok (.if_icmp .ne 6, 3) := by decide +kernel
theorem dX2_readItem_29 : decode cX2_readItem 29 = .ok (.bipush (-4), 2) := by decide +kernel
theorem dX2_readItem_31 : decode cX2_readItem 31 = .ok (.ireturn, 1) := by decide +kernel
theorem dX2_readItem_32 : decode cX2_readItem 32 = .ok (.iinc 2 1, 3) := by decide +kernel
theorem dX2_readItem_35 : decode cX2_readItem 35 = .ok (.aload_n 0, 1) := by decide +kernel
theorem dX2_readItem_36 : decode cX2_readItem 36 = .ok (.iload_n 2, 1) := by decide +kernel
theorem dX2_readItem_37 : decode cX2_readItem 37 = .ok (.invokevirtual 44, 3) := by decide +kernel
theorem dX2_readItem_40 : decode cX2_readItem 40 = .ok (.bipush (-4), 2) := by decide +kernel
theorem dX2_readItem_42 : decode cX2_readItem 42 = .ok (.if_icmp .eq 17, 3) := by decide +kernel
theorem dX2_readItem_45 : decode cX2_readItem 45 = .ok (.iload_n 3, 1) := by decide +kernel
theorem dX2_readItem_46 : decode cX2_readItem 46 = .ok (.bipush 10, 2) := by decide +kernel
theorem dX2_readItem_48 : decode cX2_readItem 48 = .ok (.imul, 1) := by decide +kernel
theorem dX2_readItem_49 : decode cX2_readItem 49 = .ok (.aload_n 0, 1) := by decide +kernel
theorem dX2_readItem_50 : decode cX2_readItem 50 = .ok (.iload_n 2, 1) := by decide +kernel
theorem dX2_readItem_51 : decode cX2_readItem 51 = .ok (.invokevirtual 44, 3) := by decide +kernel
theorem dX2_readItem_54 : decode cX2_readItem 54 = .ok (.iadd, 1) := by decide +kernel
theorem dX2_readItem_55 : decode cX2_readItem 55 = .ok (.istore_n 3, 1) := by decide +kernel
theorem dX2_readItem_56 : decode cX2_readItem 56 = .ok (.iinc 2 1, 3) := by decide +kernel
theorem dX2_readItem_59 : decode cX2_readItem 59 = .ok (.aload_n 0, 1) := by decide +kernel
theorem dX2_readItem_60 : decode cX2_readItem 60 = .ok (.getfield 15, 3) := by decide +kernel
theorem dX2_readItem_63 : decode cX2_readItem 63 = .ok (.aload_n 0, 1) := by decide +kernel
theorem dX2_readItem_64 : decode cX2_readItem 64 = .ok (.getfield 41, 3) := by decide +kernel
theorem dX2_readItem_67 : decode cX2_readItem 67 = .ok (.iload_n 3, 1) := by decide +kernel
theorem dX2_readItem_68 : decode cX2_readItem 68 = .ok (.invokestatic 22, 3) := by decide +kernel
theorem dX2_readItem_71 : decode cX2_readItem 71 = .ok (.aload_n 0, 1) := by decide +kernel
theorem dX2_readItem_72 : decode cX2_readItem 72 = .ok (.dup, 1) := by decide +kernel
theorem dX2_readItem_73 : decode cX2_readItem 73 = .ok (.getfield 41, 3) := by decide +kernel
theorem dX2_readItem_76 : decode cX2_readItem 76 = .ok (.iconst 1, 1) := by decide +kernel
theorem dX2_readItem_77 : decode cX2_readItem 77 = .ok (.iadd, 1) := by decide +kernel
theorem dX2_readItem_78 : decode cX2_readItem 78 = .ok (.putfield 41, 3) := by decide +kernel
theorem dX2_readItem_81 : decode cX2_readItem 81 = .ok (.aload_n 0, 1) := by decide +kernel
theorem dX2_readItem_82 : decode cX2_readItem 82 = .ok (.iload_n 2, 1) := by decide +kernel
theorem dX2_readItem_83 : decode cX2_readItem 83 = .ok (.invokevirtual 30, 3) := by decide +kernel
theorem dX2_readItem_86 : decode cX2_readItem 86 = .ok (.istore 4, 2) := by decide +kernel
theorem dX2_readItem_88 : decode cX2_readItem 88 = .ok (.iinc 2 1, 3) := by decide +kernel
theorem dX2_readItem_91 : decode cX2_readItem 91 = .ok (.iload 4, 2) := by decide +kernel
theorem dX2_readItem_93 : decode cX2_readItem 93 = .ok (.bipush 59, 2) := by decide +kernel
theorem dX2_readItem_95 : decode cX2_readItem 95 = .ok (.if_icmp .ne 22, 3) := by decide +kernel
theorem dX2_readItem_98 : decode cX2_readItem 98 = .ok (.aload_n 0, 1) := by decide +kernel
theorem dX2_readItem_99 : decode cX2_readItem 99 = .ok (.aload_n 0, 1) := by decide +kernel
theorem dX2_readItem_100 : decode cX2_readItem 100 = .ok (.iload_n 1, 1) := by decide +kernel
theorem dX2_readItem_101 : decode cX2_readItem 101 = .ok (.invokevirtual 30, 3) := by decide +kernel
theorem dX2_readItem_104 : decode cX2_readItem 104 = .ok (.invokevirtual 47, 3) := by decide +kernel
theorem dX2_readItem_107 : decode cX2_readItem 107 = .ok (.ifCond .eq 7, 3) := by decide +kernel
theorem dX2_readItem_110 : decode cX2_readItem 110 = .ok (.iload_n 2, 1) := by decide +kernel
theorem dX2_readItem_111 : decode cX2_readItem 111 = .ok (.goto 5, 3) := by decide +kernel
theorem dX2_readItem_114 : decode cX2_readItem 114 = .ok (.bipush (-4), 2) := by decide +kernel
theorem dX2_readItem_116 : decode cX2_readItem 116 = .ok (.ireturn, 1) := by decide +kernel
theorem dX2_readItem_117 : decode cX2_readItem 117 = .ok (.iload 4, 2) := by decide +kernel
theorem dX2_readItem_119 : decode cX2_readItem 119 = .ok (.bipush 44, 2) := by decide +kernel
theorem dX2_readItem_121 : decode cX2_readItem 121 = .ok (.if_icmp .eq 6, 3) := by decide +kernel
theorem dX2_readItem_124 : decode cX2_readItem 124 = .ok (.bipush (-4), 2) := by decide +kernel
theorem dX2_readItem_126 : decode cX2_readItem 126 = .ok (.ireturn, 1) := by decide +kernel
theorem dX2_readItem_127 : decode cX2_readItem 127 = .ok (.goto (-118), 3) := by decide +kernel
theorem dX2_readItem_130 : decode cX2_readItem 130 = .ok (.bipush (-4), 2) := by decide +kernel
theorem dX2_readItem_132 : decode cX2_readItem 132 = .ok (.ireturn, 1) := by decide +kernel
theorem dX2_isSo_0 : decode cX2_isSo 0 = .ok (.iload_n 1, 1) := by decide +kernel
theorem dX2_isSo_1 : decode cX2_isSo 1 = .ok (.tableswitch 265 100 119 #[215, 265, 265, 265, 120, 265, 265, 265, 95, 265, 265, 265, 265, 265, 240, 165, 265, 265, 265, 201], 95) := by decide +kernel
theorem dX2_isSo_96 : decode cX2_isSo 96 = .ok (.aload_n 0, 1) := by decide +kernel
theorem dX2_isSo_97 : decode cX2_isSo 97 = .ok (.getfield 41, 3) := by decide +kernel
theorem dX2_isSo_100 : decode cX2_isSo 100 = .ok (.iconst 1, 1) := by decide +kernel
theorem dX2_isSo_101 : decode cX2_isSo 101 = .ok (.if_icmp .ne 18, 3) := by decide +kernel
theorem dX2_isSo_104 : decode cX2_isSo 104 = .ok (.aload_n 0, 1) := by decide +kernel
theorem dX2_isSo_105 : decode cX2_isSo 105 = .ok (.iconst 0, 1) := by decide +kernel
theorem dX2_isSo_106 : decode cX2_isSo 106 = .ok (.iconst 1, 1) := by decide +kernel
theorem dX2_isSo_107 : decode cX2_isSo 107 = .ok (.bipush 40, 2) := by decide +kernel
theorem dX2_isSo_109 : decode cX2_isSo 109 = .ok (.invokevirtual 51, 3) := by decide +kernel
theorem dX2_isSo_112 : decode cX2_isSo 112 = .ok (.ifCond .eq 7, 3) := by decide +kernel
theorem dX2_isSo_115 : decode cX2_isSo 115 = .ok (.iconst 1, 1) := by decide +kernel
theorem dX2_isSo_116 : decode cX2_isSo 116 = .ok (.goto 4, 3) := by decide +kernel
theorem dX2_isSo_119 : decode cX2_isSo 119 = .ok (.iconst 0, 1) := by decide +kernel
theorem dX2_isSo_120 : decode cX2_isSo 120 = .ok (.ireturn, 1) := by decide +kernel
theorem dX2_isSo_121 : decode cX2_isSo 121 = .ok (.aload_n 0, 1) := by decide +kernel
theorem dX2_isSo_122 : decode cX2_isSo 122 = .ok (.getfield 41, 3) := by decide +kernel
theorem dX2_isSo_125 : decode cX2_isSo 125 = .ok (.iconst 4, 1) := by decide +kernel
theorem dX2_isSo_126 : decode cX2_isSo 126 = .ok (.if_icmp .ne 38, 3) := by decide +kernel
theorem dX2_isSo_129 : decode cX2_isSo 129 = .ok (.aload_n 0, 1) := by decide +kernel
theorem dX2_isSo_130 : decode cX2_isSo 130 = .ok (.iconst 0, 1) := by decide +kernel
theorem dX2_isSo_131 : decode cX2_isSo 131 = .ok (.iconst 0, 1) := by decide +kernel
theorem dX2_isSo_132 : decode cX2_isSo 132 = .ok (.iconst 1, 1) := by decide +kernel
theorem dX2_isSo_133 : decode cX2_isSo 133 = .ok (.invokevirtual 51, 3) := by decide +kernel
theorem dX2_isSo_136 : decode cX2_isSo 136 = .ok (.ifCond .eq 28, 3) := by decide +kernel
theorem dX2_isSo_139 : decode cX2_isSo 139 = .ok (.aload_n 0, 1) := by decide +kernel
theorem dX2_isSo_140 : decode cX2_isSo 140 = .ok (.iconst 1, 1) := by decide +kernel
theorem dX2_isSo_141 : decode cX2_isSo 141 = .ok (.iconst 0, 1) := by decide +kernel
theorem dX2_isSo_142 : decode cX2_isSo 142 = .ok (.iconst 4, 1) := by decide +kernel
theorem dX2_isSo_143 : decode cX2_isSo 143 = .ok (.invokevirtual 51, 3) := by decide +kernel
theorem dX2_isSo_146 : decode cX2_isSo 146 = .ok (.ifCond .eq 18, 3) := by decide +kernel
theorem dX2_isSo_149 : decode cX2_isSo 149 = .ok (.aload_n 0, 1) := by decide +kernel
theorem dX2_isSo_150 : decode cX2_isSo 150 = .ok (.iconst 2, 1) := by decide +kernel
theorem dX2_isSo_151 : decode cX2_isSo 151 = .ok (.iconst 0, 1) := by decide +kernel
theorem dX2_isSo_152 : decode cX2_isSo 152 = .ok (.bipush 40, 2) := by decide +kernel
theorem dX2_isSo_154 : decode cX2_isSo 154 = .ok (.invokevirtual 51, 3) := by decide +kernel
theorem dX2_isSo_157 : decode cX2_isSo 157 = .ok (.ifCond .eq 7, 3) := by decide +kernel
theorem dX2_isSo_160 : decode cX2_isSo 160 = .ok (.iconst 1, 1) := by decide +kernel
theorem dX2_isSo_161 : decode cX2_isSo 161 = .ok (.goto 4, 3) := by decide +kernel
theorem dX2_isSo_164 : decode cX2_isSo 164 = .ok (.iconst 0, 1) := by decide +kernel
theorem dX2_isSo_165 : decode cX2_isSo 165 = .ok (.ireturn, 1) := by decide +kernel
theorem dX2_isSo_166 : decode cX2_isSo 166 = .ok (.aload_n 0, 1) := by decide +kernel
theorem dX2_isSo_167 : decode cX2_isSo 167 = .ok (.getfield 41, 3) := by decide +kernel
theorem dX2_isSo_170 : decode cX2_isSo 170 = .ok (.iconst 2, 1) := by decide +kernel
theorem dX2_isSo_171 : decode cX2_isSo 171 = .ok (.if_icmp .ne 29, 3) := by decide +kernel
theorem dX2_isSo_174 : decode cX2_isSo 174 = .ok (.aload_n 0, 1) := by decide +kernel
theorem dX2_isSo_175 : decode cX2_isSo 175 = .ok (.iconst 0, 1) := by decide +kernel
theorem dX2_isSo_176 : decode cX2_isSo 176 = .ok (.iconst 0, 1) := by decide +kernel
theorem dX2_isSo_177 : decode cX2_isSo 177 = .ok (.bipush 11, 2) := by decide +kernel
theorem dX2_isSo_179 : decode cX2_isSo 179 = .ok (.invokevirtual 51, 3) := by decide +kernel
theorem dX2_isSo_182 : decode cX2_isSo 182 = .ok (.ifCond .eq 18, 3) := by decide +kernel
theorem dX2_isSo_185 : decode cX2_isSo 185 = .ok (.aload_n 0, 1) := by decide +kernel
theorem dX2_isSo_186 : decode cX2_isSo 186 = .ok (.iconst 1, 1) := by decide +kernel
theorem dX2_isSo_187 : decode cX2_isSo 187 = .ok (.iconst 1, 1) := by decide +kernel
theorem dX2_isSo_188 : decode cX2_isSo 188 = .ok (.bipush 9, 2) := by decide +kernel
theorem dX2_isSo_190 : decode cX2_isSo 190 = .ok (.invokevirtual 51, 3) := by decide +kernel
theorem dX2_isSo_193 : decode cX2_isSo 193 = .ok (.ifCond .eq 7, 3) := by decide +kernel
theorem dX2_isSo_196 : decode cX2_isSo 196 = .ok (.iconst 1, 1) := by decide +kernel
theorem dX2_isSo_197 : decode cX2_isSo 197 = .ok (.goto 4, 3) := by decide +kernel
theorem dX2_isSo_200 : decode cX2_isSo 200 = .ok (.iconst 0, 1) := by decide +kernel
theorem dX2_isSo_201 : decode cX2_isSo 201 = .ok (.ireturn, 1) := by decide +kernel
theorem dX2_isSo_202 : decode cX2_isSo 202 = .ok (.aload_n 0, 1) := by decide +kernel
theorem dX2_isSo_203 : decode cX2_isSo 203 = .ok (.getfield 41, 3) := by decide +kernel
theorem dX2_isSo_206 : decode cX2_isSo 206 = .ok (.iconst 1, 1) := by decide +kernel
theorem dX2_isSo_207 : decode cX2_isSo 207 = .ok (.if_icmp .ne 7, 3) := by decide +kernel
theorem dX2_isSo_210 : decode cX2_isSo 210 = .ok (.iconst 1, 1) := by decide +kernel
theorem dX2_isSo_211 : decode cX2_isSo 211 = .ok (.goto 4, 3) := by decide +kernel
theorem dX2_isSo_214 : decode cX2_isSo 214 = .ok (.iconst 0, 1) := by decide +kernel
theorem dX2_isSo_215 : decode cX2_isSo 215 = .ok (.ireturn, 1) := by decide +kernel
theorem dX2_isSo_216 : decode cX2_isSo 216 = .ok (.aload_n 0, 1) := by decide +kernel
theorem dX2_isSo_217 : decode cX2_isSo 217 = .ok (.getfield 41, 3) := by decide +kernel
theorem dX2_isSo_220 : decode cX2_isSo 220 = .ok (.iconst 1, 1) := by decide +kernel
theorem dX2_isSo_221 : decode cX2_isSo 221 = .ok (.if_icmp .ne 18, 3) := by decide +kernel
theorem dX2_isSo_224 : decode cX2_isSo 224 = .ok (.aload_n 0, 1) := by decide +kernel
theorem dX2_isSo_225 : decode cX2_isSo 225 = .ok (.iconst 0, 1) := by decide +kernel
theorem dX2_isSo_226 : decode cX2_isSo 226 = .ok (.iconst 0, 1) := by decide +kernel
theorem dX2_isSo_227 : decode cX2_isSo 227 = .ok (.bipush 11, 2) := by decide +kernel
theorem dX2_isSo_229 : decode cX2_isSo 229 = .ok (.invokevirtual 51, 3) := by decide +kernel
theorem dX2_isSo_232 : decode cX2_isSo 232 = .ok (.ifCond .eq 7, 3) := by decide +kernel
theorem dX2_isSo_235 : decode cX2_isSo 235 = .ok (.iconst 1, 1) := by decide +kernel
theorem dX2_isSo_236 : decode cX2_isSo 236 = .ok (.goto 4, 3) := by decide +kernel
theorem dX2_isSo_239 : decode cX2_isSo 239 = .ok (.iconst 0, 1) := by decide +kernel
theorem dX2_isSo_240 : decode cX2_isSo 240 = .ok (.ireturn, 1) := by decide +kernel
theorem dX2_isSo_241 : decode cX2_isSo 241 = .ok (.aload_n 0, 1) := by decide +kernel
theorem dX2_isSo_242 : decode cX2_isSo 242 = .ok (.getfield 41, 3) := by decide +kernel
theorem dX2_isSo_245 : decode cX2_isSo 245 = .ok (.iconst 1, 1) := by decide +kernel
theorem dX2_isSo_246 : decode cX2_isSo 246 = .ok (.if_icmp .ne 18, 3) := by decide +kernel
theorem dX2_isSo_249 : decode cX2_isSo 249 = .ok (.aload_n 0, 1) := by decide +kernel
theorem dX2_isSo_250 : decode cX2_isSo 250 = .ok (.iconst 0, 1) := by decide +kernel
theorem dX2_isSo_251 : decode cX2_isSo 251 = .ok (.iconst 1, 1) := by decide +kernel
theorem dX2_isSo_252 : decode cX2_isSo 252 = .ok (.bipush 6, 2) := by decide +kernel
theorem dX2_isSo_254 : decode cX2_isSo 254 = .ok (.invokevirtual 51, 3) := by decide +kernel
theorem dX2_isSo_257 : decode cX2_isSo 257 = .ok (.ifCond .eq 7, 3) := by decide +kernel
theorem dX2_isSo_260 : decode cX2_isSo 260 = .ok (.iconst 1, 1) := by decide +kernel
theorem dX2_isSo_261 : decode cX2_isSo 261 = .ok (.goto 4, 3) := by decide +kernel
theorem dX2_isSo_264 : decode cX2_isSo 264 = .ok (.iconst 0, 1) := by decide +kernel
theorem dX2_isSo_265 : decode cX2_isSo 265 = .ok (.ireturn, 1) := by decide +kernel
theorem dX2_isSo_266 : decode cX2_isSo 266 = .ok (.iconst 0, 1) := by decide +kernel
theorem dX2_isSo_267 : decode cX2_isSo 267 = .ok (.ireturn, 1) := by decide +kernel
theorem dX2_number_0 : decode cX2_number 0 = .ok (.aload_n 0, 1) := by decide +kernel
theorem dX2_number_1 : decode cX2_number 1 = .ok (.getfield 15, 3) := by decide +kernel
theorem dX2_number_4 : decode cX2_number 4 = .ok (.iload_n 1, 1) := by decide +kernel
theorem dX2_number_5 : decode cX2_number 5 = .ok (.invokestatic 26, 3) := by decide +kernel
theorem dX2_number_8 : decode cX2_number 8 = .ok (.iload_n 2, 1) := by decide +kernel
theorem dX2_number_9 : decode cX2_number 9 = .ok (.iload_n 3, 1) := by decide +kernel
theorem dX2_number_10 : decode cX2_number 10 = .ok (.invokestatic 34, 3) := by decide +kernel
theorem dX2_number_13 : decode cX2_number 13 = .ok (.ireturn, 1) := by decide +kernel
theorem dX3_init_0 : decode cX3_init 0 = .ok (.aload_n 0, 1) := by decide +kernel
theorem dX3_init_1 : decode cX3_init 1 = .ok (.invokespecial 3, 3) := by decide +kernel
theorem dX3_init_4 : decode cX3_init 4 = .ok (.aload_n 0, 1) := by decide +kernel
theorem dX3_init_5 : decode cX3_init 5 = .ok (.new 9, 3) := by decide +kernel
theorem dX3_init_8 : decode cX3_init 8 = .ok (.dup, 1) := by decide +kernel
theorem dX3_init_9 : decode cX3_init 9 = .ok (.invokespecial 11, 3) := by decide +kernel
theorem dX3_init_12 : decode cX3_init 12 = .ok (.putfield 12, 3) := by decide +kernel
theorem dX3_init_15 : decode cX3_init 15 = .ok (.aload_n 0, 1) := by decide +kernel
theorem dX3_init_16 : decode cX3_init 16 = .ok (.bipush 72, 2) := by decide +kernel
theorem dX3_init_18 : decode cX3_init 18 = .ok (.newarray .int, 2) := by decide +kernel
theorem dX3_init_20 : decode cX3_init 20 = .ok (.putfield 18, 3) := by decide +kernel
theorem dX3_init_23 : decode cX3_init 23 = .ok (.aload_n 0, 1) := by decide +kernel
theorem dX3_init_24 : decode cX3_init 24 = .ok (.iconst 5, 1) := by decide +kernel
theorem dX3_init_25 : decode cX3_init 25 = .ok (.newarray .int, 2) := by decide +kernel
theorem dX3_init_27 : decode cX3_init 27 = .ok (.putfield 22, 3) := by decide +kernel
theorem dX3_init_30 : decode cX3_init 30 = .ok (.aload_n 0, 1) := by decide +kernel
theorem dX3_init_31 : decode cX3_init 31 = .ok (.aload_n 1, 1) := by decide +kernel
theorem dX3_init_32 : decode cX3_init 32 = .ok (.putfield 25, 3) := by decide +kernel
theorem dX3_init_35 : decode cX3_init 35 = .ok (.return_, 1) := by decide +kernel
theorem dX3_begin_0 : decode cX3_begin 0 = .ok (.aload_n 0, 1) := by decide +kernel
theorem dX3_begin_1 : decode cX3_begin 1 = .ok (.iload_n 2, 1) := by decide +kernel
theorem dX3_begin_2 : decode cX3_begin 2 = .ok (.putfield 29, 3) := by decide +kernel
theorem dX3_begin_5 : decode cX3_begin 5 = .ok (.aload_n 0, 1) := by decide +kernel
theorem dX3_begin_6 : decode cX3_begin 6 = .ok (.iload_n 3, 1) := by decide +kernel
theorem dX3_begin_7 : decode cX3_begin 7 = .ok (.putfield 33, 3) := by decide +kernel
theorem dX3_begin_10 : decode cX3_begin 10 = .ok (.aload_n 0, 1) := by decide +kernel
theorem dX3_begin_11 : decode cX3_begin 11 = .ok (.iload 4, 2) := by decide +kernel
theorem dX3_begin_13 : decode cX3_begin 13 = .ok (.putfield 36, 3) := by decide +kernel
theorem dX3_begin_16 : decode cX3_begin 16 = .ok (.aload_n 1, 1) := by decide +kernel
theorem dX3_begin_17 : decode cX3_begin 17 = .ok (.aload_n 0, 1) := by decide +kernel
theorem dX3_begin_18 : decode cX3_begin 18 = .ok (.getfield 18, 3) := by decide +kernel
theorem dX3_begin_21 : decode cX3_begin 21 = .ok (.iconst 0, 1) := by decide +kernel
theorem dX3_begin_22 : decode cX3_begin 22 = .ok (.invokevirtual 40, 3) := by decide +kernel
theorem dX3_begin_25 : decode cX3_begin 25 = .ok (.return_, 1) := by decide +kernel
theorem dX3_open_0 : decode cX3_open 0 = .ok (.aload_n 0, 1) := by decide +kernel
theorem dX3_open_1 : decode cX3_open 1 = .ok (.getfield 12, 3) := by decide +kernel
theorem dX3_open_4 : decode cX3_open 4 = .ok (.aload_n 0, 1) := by decide +kernel
theorem dX3_open_5 : decode cX3_open 5 = .ok (.getfield 18, 3) := by decide +kernel
theorem dX3_open_8 : decode cX3_open 8 = .ok (.iload_n 1, 1) := by decide +kernel
theorem dX3_open_9 : decode cX3_open 9 = .ok (.bipush 12, 2) := by decide +kernel
theorem dX3_open_11 : decode cX3_open 11 = .ok (.imul, 1) := by decide +kernel
theorem dX3_open_12 : decode cX3_open 12 = .ok (.invokevirtual 44, 3) := by decide +kernel
theorem dX3_open_15 : decode cX3_open 15 = .ok (.return_, 1) := by decide +kernel
theorem dX3_attempt_0 : decode cX3_attempt 0 = .ok (.aload_n 0, 1) := by decide +kernel
theorem dX3_attempt_1 : decode cX3_attempt 1 = .ok (.iload_n 1, 1) := by decide +kernel
theorem dX3_attempt_2 : decode cX3_attempt 2 = .ok (.invokevirtual 47, 3) := by decide +kernel
theorem dX3_attempt_5 : decode cX3_attempt 5 = .ok (.aload_n 0, 1) := by decide +kernel
theorem dX3_attempt_6 : decode cX3_attempt 6 = .ok (.getfield 12, 3) := by decide +kernel
theorem dX3_attempt_9 : decode cX3_attempt 9 = .ok (.aload_n 0, 1) := by decide +kernel
theorem dX3_attempt_10 : decode cX3_attempt 10 = .ok (.getfield 25, 3) := by decide +kernel
theorem dX3_attempt_13 : decode cX3_attempt 13 = .ok (.iload_n 2, 1) := by decide +kernel
theorem dX3_attempt_14 : decode cX3_attempt 14 = .ok (.iload_n 3, 1) := by decide +kernel
theorem dX3_attempt_15 : decode cX3_attempt 15 = .ok (.aload_n 0, 1) := by decide +kernel
theorem dX3_attempt_16 : decode cX3_attempt 16 = .ok (.getfield 25, 3) := by decide +kernel
theorem dX3_attempt_19 : decode cX3_attempt 19 = .ok (.aload_n 0, 1) := by decide +kernel
theorem dX3_attempt_20 : decode cX3_attempt 20 = .ok (.getfield 12, 3) := by decide +kernel
theorem dX3_attempt_23 : decode cX3_attempt 23 = .ok (.getfield 51, 3) := by decide +kernel
theorem dX3_attempt_26 : decode cX3_attempt 26 = .ok (.invokevirtual 52, 3) := by decide +kernel
theorem dX3_attempt_29 : decode cX3_attempt 29 = .ok (.invokevirtual 58, 3) := by decide +kernel
theorem dX3_attempt_32 : decode cX3_attempt 32 = .ok (.aload_n 0, 1) := by decide +kernel
theorem dX3_attempt_33 : decode cX3_attempt 33 = .ok (.getfield 12, 3) := by decide +kernel
theorem dX3_attempt_36 : decode cX3_attempt 36 = .ok (.aload_n 0, 1) := by decide +kernel
theorem dX3_attempt_37 : decode cX3_attempt 37 = .ok (.getfield 18, 3) := by decide +kernel
theorem dX3_attempt_40 : decode cX3_attempt 40 = .ok (.iload_n 1, 1) := by decide +kernel
theorem dX3_attempt_41 : decode cX3_attempt 41 = .ok (.iconst 1, 1) := by decide +kernel
theorem dX3_attempt_42 : decode cX3_attempt 42 = .ok (.iadd, 1) := by decide +kernel
theorem dX3_attempt_43 : decode cX3_attempt 43 = .ok (.bipush 12, 2) := by decide +kernel
theorem dX3_attempt_45 : decode cX3_attempt 45 = .ok (.imul, 1) := by decide +kernel
theorem dX3_attempt_46 : decode cX3_attempt 46 = .ok (.invokevirtual 40, 3) := by decide +kernel
theorem dX3_attempt_49 : decode cX3_attempt 49 = .ok (.return_, 1) := by decide +kernel
theorem dX3_isReached_0 : decode cX3_isReached 0 = .ok (.aload_n 0, 1) := by decide +kernel
theorem dX3_isReached_1 : decode cX3_isReached 1 = .ok (.iload_n 1, 1) := by decide +kernel
theorem dX3_isReached_2 : decode cX3_isReached 2 = .ok (.invokevirtual 47, 3) := by decide +kernel
theorem dX3_isReached_5 : decode cX3_isReached 5 = .ok (.aload_n 0, 1) := by decide +kernel
theorem dX3_isReached_6 : decode cX3_isReached 6 = .ok (.getfield 12, 3) := by decide +kernel
theorem dX3_isReached_9 : decode cX3_isReached 9 = .ok (.aload_n 0, 1) := by decide +kernel
theorem dX3_isReached_10 : decode cX3_isReached 10 = .ok (.getfield 25, 3) := by decide +kernel
theorem dX3_isReached_13 : decode cX3_isReached 13 = .ok (.invokevirtual 62, 3) := by decide +kernel
theorem dX3_isReached_16 : decode cX3_isReached 16 = .ok (.istore_n 2, 1) := by decide +kernel
theorem dX3_isReached_17 : decode cX3_isReached 17 = .ok (.aload_n 0, 1) := by decide +kernel
theorem dX3_isReached_18 : decode cX3_isReached 18 = .ok (.getfield 36, 3) := by decide +kernel
theorem dX3_isReached_21 : decode cX3_isReached 21 = .ok (.ifCond .eq 21, 3) := by decide +kernel
theorem dX3_isReached_24 : decode cX3_isReached 24 = .ok (.iload_n 2, 1) := by decide +kernel
theorem dX3_isReached_25 : decode cX3_isReached 25 = .ok (.iconst 1, 1) := by decide +kernel
theorem dX3_isReached_26 : decode cX3_isReached 26 = .ok (.aload_n 0, 1) := by decide +kernel
theorem dX3_isReached_27 : decode cX3_isReached 27 = .ok (.getfield 29, 3) := by decide +kernel
theorem dX3_isReached_30 : decode cX3_isReached 30 = .ok (.isub, 1) := by decide +kernel
theorem dX3_isReached_31 : decode cX3_isReached 31 = .ok (.if_icmp .ne 7, 3) := by decide +kernel
theorem dX3_isReached_34 : decode cX3_isReached 34 = .ok (.iconst 1, 1) := by decide +kernel
theorem dX3_isReached_35 : decode cX3_isReached 35 = .ok (.goto 20, 3) := by decide +kernel
theorem dX3_isReached_38 : decode cX3_isReached 38 = .ok (.iconst 0, 1) := by decide +kernel
theorem dX3_isReached_39 : decode cX3_isReached 39 = .ok (.goto 16, 3) := by decide +kernel
theorem dX3_isReached_42 : decode cX3_isReached 42 = .ok (.iload_n 2, 1) := by decide +kernel
theorem dX3_isReached_43 : decode cX3_isReached 43 = .ok (.aload_n 0, 1) := by decide +kernel
theorem dX3_isReached_44 : decode cX3_isReached 44 = .ok (.getfield 29, 3) := by decide +kernel
theorem dX3_isReached_47 : decode cX3_isReached 47 = .ok (.if_icmp .eq 7, 3) := by decide +kernel
theorem dX3_isReached_50 : decode cX3_isReached 50 = .ok (.iconst 1, 1) := by decide +kernel
theorem dX3_isReached_51 : decode cX3_isReached 51 = .ok (.goto 4, 3) := by decide +kernel
theorem dX3_isReached_54 : decode cX3_isReached 54 = .ok (.iconst 0, 1) := by decide +kernel
theorem dX3_isReached_55 : decode cX3_isReached 55 = .ok (.ireturn, 1) := by decide +kernel
theorem dX3_isOver_0 : decode cX3_isOver 0 = .ok (.aload_n 0, 1) := by decide +kernel
theorem dX3_isOver_1 : decode cX3_isOver 1 = .ok (.iload_n 1, 1) := by decide +kernel
theorem dX3_isOver_2 : decode cX3_isOver 2 = .ok (.invokevirtual 47, 3) := by decide +kernel
theorem dX3_isOver_5 : decode cX3_isOver 5 = .ok (.aload_n 0, 1) := by decide +kernel
theorem dX3_isOver_6 : decode cX3_isOver 6 = .ok (.getfield 12, 3) := by decide +kernel
theorem dX3_isOver_9 : decode cX3_isOver 9 = .ok (.aload_n 0, 1) := by decide +kernel
theorem dX3_isOver_10 : decode cX3_isOver 10 = .ok (.getfield 25, 3) := by decide +kernel
theorem dX3_isOver_13 : decode cX3_isOver 13 = .ok (.invokevirtual 62, 3) := by decide +kernel
theorem dX3_isOver_16 : decode cX3_isOver 16 = .ok (.bipush (-4), 2) := by decide +kernel
theorem dX3_isOver_18 : decode cX3_isOver 18 = .ok (.if_icmp .eq 7, 3) := by decide +kernel
theorem dX3_isOver_21 : decode cX3_isOver 21 = .ok (.iconst 1, 1) := by decide +kernel
theorem dX3_isOver_22 : decode cX3_isOver 22 = .ok (.goto 4, 3) := by decide +kernel
theorem dX3_isOver_25 : decode cX3_isOver 25 = .ok (.iconst 0, 1) := by decide +kernel
theorem dX3_isOver_26 : decode cX3_isOver 26 = .ok (.ireturn, 1) := by decide +kernel
theorem dX3_leadAt_0 : decode cX3_leadAt 0 = .ok (.aload_n 0, 1) := by decide +kernel
theorem dX3_leadAt_1 : decode cX3_leadAt 1 = .ok (.iload_n 1, 1) := by decide +kernel
theorem dX3_leadAt_2 : decode cX3_leadAt 2 = .ok (.invokevirtual 47, 3) := by decide +kernel
theorem dX3_leadAt_5 : decode cX3_leadAt 5 = .ok (.aload_n 0, 1) := by decide +kernel
theorem dX3_leadAt_6 : decode cX3_leadAt 6 = .ok (.getfield 12, 3) := by decide +kernel
theorem dX3_leadAt_9 : decode cX3_leadAt 9 = .ok (.getfield 66, 3) := by decide +kernel
theorem dX3_leadAt_12 : decode cX3_leadAt 12 = .ok (.getfield 70, 3) := by decide +kernel
theorem dX3_leadAt_15 : decode cX3_leadAt 15 = .ok (.aload_n 0, 1) := by decide +kernel
theorem dX3_leadAt_16 : decode cX3_leadAt 16 = .ok (.getfield 12, 3) := by decide +kernel
theorem dX3_leadAt_19 : decode cX3_leadAt 19 = .ok (.getfield 75, 3) := by decide +kernel
theorem dX3_leadAt_22 : decode cX3_leadAt 22 = .ok (.getfield 70, 3) := by decide +kernel
theorem dX3_leadAt_25 : decode cX3_leadAt 25 = .ok (.isub, 1) := by decide +kernel
theorem dX3_leadAt_26 : decode cX3_leadAt 26 = .ok (.istore_n 2, 1) := by decide +kernel
theorem dX3_leadAt_27 : decode cX3_leadAt 27 = .ok (.aload_n 0, 1) := by decide +kernel
theorem dX3_leadAt_28 : decode cX3_leadAt 28 = .ok (.getfield 12, 3) := by decide +kernel
theorem dX3_leadAt_31 : decode cX3_leadAt 31 = .ok (.aload_n 0, 1) := by decide +kernel
theorem dX3_leadAt_32 : decode cX3_leadAt 32 = .ok (.getfield 25, 3) := by decide +kernel
theorem dX3_leadAt_35 : decode cX3_leadAt 35 = .ok (.invokevirtual 62, 3) := by decide +kernel
theorem dX3_leadAt_38 : decode cX3_leadAt 38 = .ok (.istore_n 3, 1) := by decide +kernel
theorem dX3_leadAt_39 : decode cX3_leadAt 39 = .ok (.iload_n 3, 1) := by decide +kernel
theorem dX3_leadAt_40 : decode cX3_leadAt 40 = .ok (.ifCond .ne 8, 3) := by decide +kernel
theorem dX3_leadAt_43 : decode cX3_leadAt 43 = .ok (.iload_n 2, 1) := by decide +kernel
theorem dX3_leadAt_44 : decode cX3_leadAt 44 = .ok (.bipush 100, 2) := by decide +kernel
theorem dX3_leadAt_46 : decode cX3_leadAt 46 = .ok (.isub, 1) := by decide +kernel
theorem dX3_leadAt_47 : decode cX3_leadAt 47 = .ok (.ireturn, 1) := by decide +kernel
theorem dX3_leadAt_48 : decode cX3_leadAt 48 = .ok (.iload_n 3, 1) := by decide +kernel
theorem dX3_leadAt_49 : decode cX3_leadAt 49 = .ok (.iconst 1, 1) := by decide +kernel
theorem dX3_leadAt_50 : decode cX3_leadAt 50 = .ok (.if_icmp .ne 10, 3) := by decide +kernel
theorem dX3_leadAt_53 : decode cX3_leadAt 53 = .ok (.iload_n 2, 1) := by decide +kernel
theorem dX3_leadAt_54 : decode cX3_leadAt 54 = .ok (.bipush 100, 2) := by decide +kernel
theorem dX3_leadAt_56 : decode cX3_leadAt 56 = .ok (.iadd, 1) := by decide +kernel
theorem dX3_leadAt_57 : decode cX3_leadAt 57 = .ok (.goto 4, 3) := by decide +kernel
theorem dX3_leadAt_60 : decode cX3_leadAt 60 = .ok (.iload_n 2, 1) := by decide +kernel
theorem dX3_leadAt_61 : decode cX3_leadAt 61 = .ok (.ireturn, 1) := by decide +kernel
theorem dX4_init_0 : decode cX4_init 0 = .ok (.aload_n 0, 1) := by decide +kernel
theorem dX4_init_1 : decode cX4_init 1 = .ok (.invokespecial 3, 3) := by decide +kernel
theorem dX4_init_4 : decode cX4_init 4 = .ok (.aload_n 0, 1) := by decide +kernel
theorem dX4_init_5 : decode cX4_init 5 = .ok (.iconst 1, 1) := by decide +kernel
theorem dX4_init_6 : decode cX4_init 6 = .ok (.iload_n 1, 1) := by decide +kernel
theorem dX4_init_7 : decode cX4_init 7 = .ok (.bipush 8, 2) := by decide +kernel
theorem dX4_init_9 : decode cX4_init 9 = .ok (.invokestatic 9, 3) := by decide +kernel
theorem dX4_init_12 : decode cX4_init 12 = .ok (.invokestatic 15, 3) := by decide +kernel
theorem dX4_init_15 : decode cX4_init 15 = .ok (.putfield 18, 3) := by decide +kernel
theorem dX4_init_18 : decode cX4_init 18 = .ok (.aload_n 0, 1) := by decide +kernel
theorem dX4_init_19 : decode cX4_init 19 = .ok (.aload_n 0, 1) := by decide +kernel
theorem dX4_init_20 : decode cX4_init 20 = .ok (.getfield 18, 3) := by decide +kernel
theorem dX4_init_23 : decode cX4_init 23 = .ok (.bipush 12, 2) := by decide +kernel
theorem dX4_init_25 : decode cX4_init 25 = .ok (.imul, 1) := by decide +kernel
theorem dX4_init_26 : decode cX4_init 26 = .ok (.newarray .int, 2) := by decide +kernel
theorem dX4_init_28 : decode cX4_init 28 = .ok (.putfield 26, 3) := by decide +kernel
theorem dX4_init_31 : decode cX4_init 31 = .ok (.return_, 1) := by decide +kernel
theorem dX4_push_0 : decode cX4_push 0 = .ok (.aload_n 0, 1) := by decide +kernel
theorem dX4_push_1 : decode cX4_push 1 = .ok (.getfield 30, 3) := by decide +kernel
theorem dX4_push_4 : decode cX4_push 4 = .ok (.aload_n 0, 1) := by decide +kernel
theorem dX4_push_5 : decode cX4_push 5 = .ok (.getfield 18, 3) := by decide +kernel
theorem dX4_push_8 : decode cX4_push 8 = .ok (.if_icmp .lt 7, 3) := by decide +kernel
theorem dX4_push_11 : decode cX4_push 11 = .ok (.aload_n 0, 1) := by decide +kernel
theorem dX4_push_12 : decode cX4_push 12 = .ok (.invokevirtual 33, 3) := by decide +kernel
theorem dX4_push_15 : decode cX4_push 15 = .ok (.aload_n 1, 1) := by decide +kernel
theorem dX4_push_16 : decode cX4_push 16 = .ok (.aload_n 0, 1) := by decide +kernel
theorem dX4_push_17 : decode cX4_push 17 = .ok (.getfield 26, 3) := by decide +kernel
theorem dX4_push_20 : decode cX4_push 20 = .ok (.aload_n 0, 1) := by decide +kernel
theorem dX4_push_21 : decode cX4_push 21 = .ok (.getfield 30, 3) := by decide +kernel
theorem dX4_push_24 : decode cX4_push 24 = .ok (.bipush 12, 2) := by decide +kernel
theorem dX4_push_26 : decode cX4_push 26 = .ok (.imul, 1) := by decide +kernel
theorem dX4_push_27 : decode cX4_push 27 = .ok (.invokevirtual 36, 3) := by decide +kernel
theorem dX4_push_30 : decode cX4_push 30 = .ok (.aload_n 0, 1) := by decide +kernel
theorem dX4_push_31 : decode cX4_push 31 = .ok (.dup, 1) := by decide +kernel
theorem dX4_push_32 : decode cX4_push 32 = .ok (.getfield 30, 3) := by decide +kernel
theorem dX4_push_35 : decode cX4_push 35 = .ok (.iconst 1, 1) := by decide +kernel
theorem dX4_push_36 : decode cX4_push 36 = .ok (.iadd, 1) := by decide +kernel
theorem dX4_push_37 : decode cX4_push 37 = .ok (.putfield 30, 3) := by decide +kernel
theorem dX4_push_40 : decode cX4_push 40 = .ok (.return_, 1) := by decide +kernel
theorem dX4_pop_0 : decode cX4_pop 0 = .ok (.aload_n 0, 1) := by decide +kernel
theorem dX4_pop_1 : decode cX4_pop 1 = .ok (.getfield 30, 3) := by decide +kernel
theorem dX4_pop_4 : decode cX4_pop 4 = .ok (.ifCond .le 28, 3) := by decide +kernel
theorem dX4_pop_7 : decode cX4_pop 7 = .ok (.aload_n 0, 1) := by decide +kernel
theorem dX4_pop_8 : decode cX4_pop 8 = .ok (.dup, 1) := by decide +kernel
theorem dX4_pop_9 : decode cX4_pop 9 = .ok (.getfield 30, 3) := by decide +kernel
theorem dX4_pop_12 : decode cX4_pop 12 = .ok (.iconst 1, 1) := by decide +kernel
theorem dX4_pop_13 : decode cX4_pop 13 = .ok (.isub, 1) := by decide +kernel
theorem dX4_pop_14 : decode cX4_pop 14 = .ok (.putfield 30, 3) := by decide +kernel
theorem dX4_pop_17 : decode cX4_pop 17 = .ok (.aload_n 1, 1) := by decide +kernel
theorem dX4_pop_18 : decode cX4_pop 18 = .ok (.aload_n 0, 1) := by decide +kernel
theorem dX4_pop_19 : decode cX4_pop 19 = .ok (.getfield 26, 3) := by decide +kernel
theorem dX4_pop_22 : decode cX4_pop 22 = .ok (.aload_n 0, 1) := by decide +kernel
theorem dX4_pop_23 : decode cX4_pop 23 = .ok (.getfield 30, 3) := by decide +kernel
theorem dX4_pop_26 : decode cX4_pop 26 = .ok (.bipush 12, 2) := by decide +kernel
theorem dX4_pop_28 : decode cX4_pop 28 = .ok (.imul, 1) := by decide +kernel
theorem dX4_pop_29 : decode cX4_pop 29 = .ok (.invokevirtual 40, 3) := by decide +kernel
theorem dX4_pop_32 : decode cX4_pop 32 = .ok (.return_, 1) := by decide +kernel
theorem dX4_dropOldest_0 : decode cX4_dropOldest 0 = .ok (.iconst 0, 1) := by decide +kernel
theorem dX4_dropOldest_1 : decode cX4_dropOldest 1 = .ok (.istore_n 1, 1) := by decide +kernel
theorem dX4_dropOldest_2 : decode cX4_dropOldest 2 = .ok (.iload_n 1, 1) := by decide +kernel
theorem dX4_dropOldest_3 : decode cX4_dropOldest 3 = .ok (.bipush 12, 2) := by decide +kernel
theorem dX4_dropOldest_5 : decode cX4_dropOldest 5 = .ok (.iadd, 1) := by decide +kernel
theorem dX4_dropOldest_6 : decode cX4_dropOldest 6 = .ok (.aload_n 0, 1) := by decide +kernel
theorem dX4_dropOldest_7 : decode cX4_dropOldest 7 = .ok (.getfield 26, 3) := by decide +kernel
theorem dX4_dropOldest_10 : decode cX4_dropOldest 10 = .ok (.arraylength, 1) := by decide +kernel
theorem dX4_dropOldest_11 : decode cX4_dropOldest 11 = .ok (.if_icmp .ge 28, 3) := by decide +kernel
theorem dX4_dropOldest_14 : decode cX4_dropOldest 14 = .ok (.aload_n 0, 1) := by decide +kernel
theorem dX4_dropOldest_15 : decode cX4_dropOldest 15 = .ok (.getfield 26, 3) := by decide +kernel
theorem dX4_dropOldest_18 : decode cX4_dropOldest 18 = .ok (.iload_n 1, 1) := by decide +kernel
theorem dX4_dropOldest_19 : decode cX4_dropOldest 19 = .ok (.aload_n 0, 1) := by decide +kernel
theorem dX4_dropOldest_20 : decode cX4_dropOldest 20 = .ok (.getfield 26, 3) := by decide +kernel
theorem dX4_dropOldest_23 : decode cX4_dropOldest 23 = .ok (.iload_n 1, 1) := by decide +kernel
theorem dX4_dropOldest_24 : decode cX4_dropOldest 24 = .ok (.bipush 12, 2) := by decide +kernel
theorem dX4_dropOldest_26 : decode cX4_dropOldest 26 = .ok (.iadd, 1) := by decide +kernel
theorem dX4_dropOldest_27 : decode cX4_dropOldest 27 = .ok (.invokestatic 43, 3) := by decide +kernel
theorem dX4_dropOldest_30 : decode cX4_dropOldest 30 = .ok (.invokestatic 47, 3) := by decide +kernel
theorem dX4_dropOldest_33 : decode cX4_dropOldest 33 = .ok (.iinc 1 1, 3) := by decide +kernel
theorem dX4_dropOldest_36 : decode cX4_dropOldest 36 = .ok (.goto (-34), 3) := by decide +kernel
theorem dX4_dropOldest_39 : decode cX4_dropOldest 39 = .ok (.aload_n 0, 1) := by decide +kernel
theorem dX4_dropOldest_40 : decode cX4_dropOldest 40 = .ok (.aload_n 0, 1) := by decide +kernel
theorem dX4_dropOldest_41 : decode cX4_dropOldest 41 = .ok (.getfield 18, 3) := by decide +kernel
theorem dX4_dropOldest_44 : decode cX4_dropOldest 44 = .ok (.iconst 1, 1) := by decide +kernel
theorem dX4_dropOldest_45 : decode cX4_dropOldest 45 = .ok (.isub, 1) := by decide +kernel
theorem dX4_dropOldest_46 : decode cX4_dropOldest 46 = .ok (.putfield 30, 3) := by decide +kernel
theorem dX4_dropOldest_49 : decode cX4_dropOldest 49 = .ok (.return_, 1) := by decide +kernel
theorem dX5_init_0 : decode cX5_init 0 = .ok (.aload_n 0, 1) := by decide +kernel
theorem dX5_init_1 : decode cX5_init 1 = .ok (.invokespecial 3, 3) := by decide +kernel
theorem dX5_init_4 : decode cX5_init 4 = .ok (.aload_n 0, 1) := by decide +kernel
theorem dX5_init_5 : decode cX5_init 5 = .ok (.bipush 6, 2) := by decide +kernel
theorem dX5_init_7 : decode cX5_init 7 = .ok (.newarray .int, 2) := by decide +kernel
theorem dX5_init_9 : decode cX5_init 9 = .ok (.putfield 9, 3) := by decide +kernel
theorem dX5_init_12 : decode cX5_init 12 = .ok (.aload_n 0, 1) := by decide +kernel
theorem dX5_init_13 : decode cX5_init 13 = .ok (.bipush 6, 2) := by decide +kernel
theorem dX5_init_15 : decode cX5_init 15 = .ok (.newarray .int, 2) := by decide +kernel
theorem dX5_init_17 : decode cX5_init 17 = .ok (.putfield 15, 3) := by decide +kernel
theorem dX5_init_20 : decode cX5_init 20 = .ok (.aload_n 0, 1) := by decide +kernel
theorem dX5_init_21 : decode cX5_init 21 = .ok (.bipush 6, 2) := by decide +kernel
theorem dX5_init_23 : decode cX5_init 23 = .ok (.newarray .int, 2) := by decide +kernel
theorem dX5_init_25 : decode cX5_init 25 = .ok (.putfield 18, 3) := by decide +kernel
theorem dX5_init_28 : decode cX5_init 28 = .ok (.return_, 1) := by decide +kernel
theorem dX5_add_0 : decode cX5_add 0 = .ok (.aload_n 0, 1) := by decide +kernel
theorem dX5_add_1 : decode cX5_add 1 = .ok (.getfield 9, 3) := by decide +kernel
theorem dX5_add_4 : decode cX5_add 4 = .ok (.aload_n 0, 1) := by decide +kernel
theorem dX5_add_5 : decode cX5_add 5 = .ok (.getfield 21, 3) := by decide +kernel
theorem dX5_add_8 : decode cX5_add 8 = .ok (.iload_n 1, 1) := by decide +kernel
theorem dX5_add_9 : decode cX5_add 9 = .ok (.invokestatic 25, 3) := by decide +kernel
theorem dX5_add_12 : decode cX5_add 12 = .ok (.aload_n 0, 1) := by decide +kernel
theorem dX5_add_13 : decode cX5_add 13 = .ok (.getfield 15, 3) := by decide +kernel
theorem dX5_add_16 : decode cX5_add 16 = .ok (.aload_n 0, 1) := by decide +kernel
theorem dX5_add_17 : decode cX5_add 17 = .ok (.getfield 21, 3) := by decide +kernel
theorem dX5_add_20 : decode cX5_add 20 = .ok (.iload_n 2, 1) := by decide +kernel
theorem dX5_add_21 : decode cX5_add 21 = .ok (.invokestatic 25, 3) := by decide +kernel
theorem dX5_add_24 : decode cX5_add 24 = .ok (.aload_n 0, 1) := by decide +kernel
theorem dX5_add_25 : decode cX5_add 25 = .ok (.getfield 18, 3) := by decide +kernel
theorem dX5_add_28 : decode cX5_add 28 = .ok (.aload_n 0, 1) := by decide +kernel
theorem dX5_add_29 : decode cX5_add 29 = .ok (.getfield 21, 3) := by decide +kernel
theorem dX5_add_32 : decode cX5_add 32 = .ok (.iload_n 3, 1) := by decide +kernel
theorem dX5_add_33 : decode cX5_add 33 = .ok (.invokestatic 25, 3) := by decide +kernel
theorem dX5_add_36 : decode cX5_add 36 = .ok (.aload_n 0, 1) := by decide +kernel
theorem dX5_add_37 : decode cX5_add 37 = .ok (.dup, 1) := by decide +kernel
theorem dX5_add_38 : decode cX5_add 38 = .ok (.getfield 21, 3) := by decide +kernel
theorem dX5_add_41 : decode cX5_add 41 = .ok (.iconst 1, 1) := by decide +kernel
theorem dX5_add_42 : decode cX5_add 42 = .ok (.iadd, 1) := by decide +kernel
theorem dX5_add_43 : decode cX5_add 43 = .ok (.putfield 21, 3) := by decide +kernel
theorem dX5_add_46 : decode cX5_add 46 = .ok (.return_, 1) := by decide +kernel
theorem dX5_agree_0 : decode cX5_agree 0 = .ok (.iconst 0, 1) := by decide +kernel
theorem dX5_agree_1 : decode cX5_agree 1 = .ok (.istore_n 3, 1) := by decide +kernel
theorem dX5_agree_2 : decode cX5_agree 2 = .ok (.iload_n 3, 1) := by decide +kernel
theorem dX5_agree_3 : decode cX5_agree 3 = .ok (.aload_n 0, 1) := by decide +kernel
theorem dX5_agree_4 : decode cX5_agree 4 = .ok (.getfield 21, 3) := by decide +kernel
theorem dX5_agree_7 : decode cX5_agree 7 = .ok (.if_icmp .ge 49, 3) := by decide +kernel
theorem dX5_agree_10 : decode cX5_agree 10 = .ok (.aload_n 0, 1) := by decide +kernel
theorem dX5_agree_11 : decode cX5_agree 11 = .ok (.getfield 15, 3) := by decide +kernel
theorem dX5_agree_14 : decode cX5_agree 14 = .ok (.iload_n 3, 1) := by decide +kernel
theorem dX5_agree_15 : decode cX5_agree 15 = .ok (.invokestatic 29, 3) := by decide +kernel
theorem dX5_agree_18 : decode cX5_agree 18 = .ok (.iload_n 1, 1) := by decide +kernel
theorem dX5_agree_19 : decode cX5_agree 19 = .ok (.if_icmp .ne 31, 3) := by decide +kernel
theorem dX5_agree_22 : decode cX5_agree 22 = .ok (.aload_n 2, 1) := by decide +kernel
theorem dX5_agree_23 : decode cX5_agree 23 = .ok (.aload_n 0, 1) := by decide +kernel
theorem dX5_agree_24 : decode cX5_agree 24 = .ok (.getfield 9, 3) := by decide +kernel
theorem dX5_agree_27 : decode cX5_agree 27 = .ok (.iload_n 3, 1) := by decide +kernel
theorem dX5_agree_28 : decode cX5_agree 28 = .ok (.invokestatic 29, 3) := by decide +kernel
theorem dX5_agree_31 : decode cX5_agree 31 = .ok (.invokevirtual 33, 3) := by decide +kernel
theorem dX5_agree_34 : decode cX5_agree 34 = .ok (.getfield 39, 3) := by decide +kernel
theorem dX5_agree_37 : decode cX5_agree 37 = .ok (.aload_n 0, 1) := by decide +kernel
theorem dX5_agree_38 : decode cX5_agree 38 = .ok (.getfield 18, 3) := by decide +kernel
theorem dX5_agree_41 : decode cX5_agree 41 = .ok (.iload_n 3, 1) := by decide +kernel
theorem dX5_agree_42 : decode cX5_agree 42 = .ok (.invokestatic 29, 3) := by decide +kernel
theorem dX5_agree_45 : decode cX5_agree 45 = .ok (.if_icmp .eq 5, 3) := by decide +kernel
theorem dX5_agree_48 : decode cX5_agree 48 = .ok (.iconst 0, 1) := by decide +kernel
theorem dX5_agree_49 : decode cX5_agree 49 = .ok (.ireturn, 1) := by decide +kernel
theorem dX5_agree_50 : decode cX5_agree 50 = .ok (.iinc 3 1, 3) := by decide +kernel
theorem dX5_agree_53 : decode cX5_agree 53 = .ok (.goto (-51), 3) := by decide +kernel
theorem dX5_agree_56 : decode cX5_agree 56 = .ok (.iconst 1, 1) := by decide +kernel
theorem dX5_agree_57 : decode cX5_agree 57 = .ok (.ireturn, 1) := by decide +kernel
theorem dX6_init_0 : decode cX6_init 0 = .ok (.aload_n 0, 1) := by decide +kernel
theorem dX6_init_1 : decode cX6_init 1 = .ok (.invokespecial 3, 3) := by decide +kernel
theorem dX6_init_4 : decode cX6_init 4 = .ok (.aload_n 0, 1) := by decide +kernel
theorem dX6_init_5 : decode cX6_init 5 = .ok (.bipush 12, 2) := by decide +kernel
theorem dX6_init_7 : decode cX6_init 7 = .ok (.newarray .int, 2) := by decide +kernel
theorem dX6_init_9 : decode cX6_init 9 = .ok (.putfield 9, 3) := by decide +kernel
theorem dX6_init_12 : decode cX6_init 12 = .ok (.aload_n 0, 1) := by decide +kernel
theorem dX6_init_13 : decode cX6_init 13 = .ok (.bipush 12, 2) := by decide +kernel
theorem dX6_init_15 : decode cX6_init 15 = .ok (.newarray .int, 2) := by decide +kernel
theorem dX6_init_17 : decode cX6_init 17 = .ok (.putfield 15, 3) := by decide +kernel
theorem dX6_init_20 : decode cX6_init 20 = .ok (.return_, 1) := by decide +kernel
theorem dX6_clear_0 : decode cX6_clear 0 = .ok (.aload_n 0, 1) := by decide +kernel
theorem dX6_clear_1 : decode cX6_clear 1 = .ok (.bipush 12, 2) := by decide +kernel
theorem dX6_clear_3 : decode cX6_clear 3 = .ok (.putfield 18, 3) := by decide +kernel
theorem dX6_clear_6 : decode cX6_clear 6 = .ok (.aload_n 0, 1) := by decide +kernel
theorem dX6_clear_7 : decode cX6_clear 7 = .ok (.iconst 2, 1) := by decide +kernel
theorem dX6_clear_8 : decode cX6_clear 8 = .ok (.putfield 22, 3) := by decide +kernel
theorem dX6_clear_11 : decode cX6_clear 11 = .ok (.iconst 0, 1) := by decide +kernel
theorem dX6_clear_12 : decode cX6_clear 12 = .ok (.istore_n 1, 1) := by decide +kernel
theorem dX6_clear_13 : decode cX6_clear 13 = .ok (.iload_n 1, 1) := by decide +kernel
theorem dX6_clear_14 : decode cX6_clear 14 = .ok (.bipush 12, 2) := by decide +kernel
theorem dX6_clear_16 : decode cX6_clear 16 = .ok (.if_icmp .ge 27, 3) := by decide +kernel
theorem dX6_clear_19 : decode cX6_clear 19 = .ok (.aload_n 0, 1) := by decide +kernel
theorem dX6_clear_20 : decode cX6_clear 20 = .ok (.getfield 9, 3) := by decide +kernel
theorem dX6_clear_23 : decode cX6_clear 23 = .ok (.iload_n 1, 1) := by decide +kernel
theorem dX6_clear_24 : decode cX6_clear 24 = .ok (.iconst 5, 1) := by decide +kernel
theorem dX6_clear_25 : decode cX6_clear 25 = .ok (.invokestatic 25, 3) := by decide +kernel
theorem dX6_clear_28 : decode cX6_clear 28 = .ok (.aload_n 0, 1) := by decide +kernel
theorem dX6_clear_29 : decode cX6_clear 29 = .ok (.getfield 15, 3) := by decide +kernel
theorem dX6_clear_32 : decode cX6_clear 32 = .ok (.iload_n 1, 1) := by decide +kernel
theorem dX6_clear_33 : decode cX6_clear 33 = .ok (.iconst 0, 1) := by decide +kernel
theorem dX6_clear_34 : decode cX6_clear 34 = .ok (.invokestatic 25, 3) := by decide +kernel
theorem dX6_clear_37 : decode cX6_clear 37 = .ok (.iinc 1 1, 3) := by decide +kernel
theorem dX6_clear_40 : decode cX6_clear 40 = .ok (.goto (-27), 3) := by decide +kernel
theorem dX6_clear_43 : decode cX6_clear 43 = .ok (.return_, 1) := by decide +kernel
theorem dX6_sunIn_0 : decode cX6_sunIn 0 = .ok (.aload_n 0, 1) := by decide +kernel
theorem dX6_sunIn_1 : decode cX6_sunIn 1 = .ok (.getfield 9, 3) := by decide +kernel
theorem dX6_sunIn_4 : decode cX6_sunIn 4 = .ok (.iload_n 1, 1) := by decide +kernel
theorem dX6_sunIn_5 : decode cX6_sunIn 5 = .ok (.bipush 12, 2) := by decide +kernel
theorem dX6_sunIn_7 : decode cX6_sunIn 7 = .ok (.invokestatic 29, 3) := by decide +kernel
theorem dX6_sunIn_10 : decode cX6_sunIn 10 = .ok (.invokestatic 35, 3) := by decide +kernel
theorem dX6_sunIn_13 : decode cX6_sunIn 13 = .ok (.ireturn, 1) := by decide +kernel
theorem dX6_isDry_0 : decode cX6_isDry 0 = .ok (.aload_n 0, 1) := by decide +kernel
theorem dX6_isDry_1 : decode cX6_isDry 1 = .ok (.getfield 15, 3) := by decide +kernel
theorem dX6_isDry_4 : decode cX6_isDry 4 = .ok (.iload_n 1, 1) := by decide +kernel
theorem dX6_isDry_5 : decode cX6_isDry 5 = .ok (.bipush 12, 2) := by decide +kernel
theorem dX6_isDry_7 : decode cX6_isDry 7 = .ok (.invokestatic 29, 3) := by decide +kernel
theorem dX6_isDry_10 : decode cX6_isDry 10 = .ok (.invokestatic 35, 3) := by decide +kernel
theorem dX6_isDry_13 : decode cX6_isDry 13 = .ok (.iconst 1, 1) := by decide +kernel
theorem dX6_isDry_14 : decode cX6_isDry 14 = .ok (.if_icmp .ne 7, 3) := by decide +kernel
theorem dX6_isDry_17 : decode cX6_isDry 17 = .ok (.iconst 1, 1) := by decide +kernel
theorem dX6_isDry_18 : decode cX6_isDry 18 = .ok (.goto 4, 3) := by decide +kernel
theorem dX6_isDry_21 : decode cX6_isDry 21 = .ok (.iconst 0, 1) := by decide +kernel
theorem dX6_isDry_22 : decode cX6_isDry 22 = .ok (.ireturn, 1) := by decide +kernel
theorem dJ9_floorMod_7cf53_0 : decode cJ9_floorMod_7cf53 0 = .ok (.iload_n 0, 1) := by decide +kernel
theorem dJ9_floorMod_7cf53_1 : decode cJ9_floorMod_7cf53 1 = .ok (.iload_n 1, 1) := by decide +kernel
theorem dJ9_floorMod_7cf53_2 : decode cJ9_floorMod_7cf53 2 = .ok (.irem, 1) := by decide +kernel
theorem dJ9_floorMod_7cf53_3 : decode cJ9_floorMod_7cf53 3 = .ok (.istore_n 2, 1) := by decide +kernel
theorem dJ9_floorMod_7cf53_4 : decode cJ9_floorMod_7cf53 4 = .ok (.iload_n 0, 1) := by decide +kernel
theorem dJ9_floorMod_7cf53_5 : decode cJ9_floorMod_7cf53 5 = .ok (.iload_n 1, 1) := by decide +kernel
theorem dJ9_floorMod_7cf53_6 : decode cJ9_floorMod_7cf53 6 = .ok (.ixor, 1) := by decide +kernel
theorem dJ9_floorMod_7cf53_7 : decode cJ9_floorMod_7cf53 7 = .ok (.ifCond .ge 11, 3) := by decide +kernel
theorem dJ9_floorMod_7cf53_10 : decode cJ9_floorMod_7cf53 10 = .ok (.iload_n 2, 1) := by decide +kernel
theorem dJ9_floorMod_7cf53_11 : decode cJ9_floorMod_7cf53 11 = .ok (.ifCond .eq 7, 3) := by decide +kernel
theorem dJ9_floorMod_7cf53_14 : decode cJ9_floorMod_7cf53 14 = .ok (.iload_n 2, 1) := by decide +kernel
theorem dJ9_floorMod_7cf53_15 : decode cJ9_floorMod_7cf53 15 = .ok (.iload_n 1, 1) := by decide +kernel
theorem dJ9_floorMod_7cf53_16 : decode cJ9_floorMod_7cf53 16 = .ok (.iadd, 1) := by decide +kernel
theorem dJ9_floorMod_7cf53_17 : decode cJ9_floorMod_7cf53 17 = .ok (.ireturn, 1) := by decide +kernel
theorem dJ9_floorMod_7cf53_18 : decode cJ9_floorMod_7cf53 18 = .ok (.iload_n 2, 1) := by decide +kernel
theorem dJ9_floorMod_7cf53_19 : decode cJ9_floorMod_7cf53 19 = .ok (.ireturn, 1) := by decide +kernel
theorem dJ9_max_7cf53_0 : decode cJ9_max_7cf53 0 = .ok (.iload_n 0, 1) := by decide +kernel
theorem dJ9_max_7cf53_1 : decode cJ9_max_7cf53 1 = .ok (.iload_n 1, 1) := by decide +kernel
theorem dJ9_max_7cf53_2 : decode cJ9_max_7cf53 2 = .ok (.if_icmp .lt 7, 3) := by decide +kernel
theorem dJ9_max_7cf53_5 : decode cJ9_max_7cf53 5 = .ok (.iload_n 0, 1) := by decide +kernel
theorem dJ9_max_7cf53_6 : decode cJ9_max_7cf53 6 = .ok (.goto 4, 3) := by decide +kernel
theorem dJ9_max_7cf53_9 : decode cJ9_max_7cf53 9 = .ok (.iload_n 1, 1) := by decide +kernel
theorem dJ9_max_7cf53_10 : decode cJ9_max_7cf53 10 = .ok (.ireturn, 1) := by decide +kernel
theorem dJ9_min_7cf53_0 : decode cJ9_min_7cf53 0 = .ok (.iload_n 0, 1) := by decide +kernel
theorem dJ9_min_7cf53_1 : decode cJ9_min_7cf53 1 = .ok (.iload_n 1, 1) := by decide +kernel
theorem dJ9_min_7cf53_2 : decode cJ9_min_7cf53 2 = .ok (.if_icmp .gt 7, 3) := by decide +kernel
theorem dJ9_min_7cf53_5 : decode cJ9_min_7cf53 5 = .ok (.iload_n 0, 1) := by decide +kernel
theorem dJ9_min_7cf53_6 : decode cJ9_min_7cf53 6 = .ok (.goto 4, 3) := by decide +kernel
theorem dJ9_min_7cf53_9 : decode cJ9_min_7cf53 9 = .ok (.iload_n 1, 1) := by decide +kernel
theorem dJ9_min_7cf53_10 : decode cJ9_min_7cf53 10 = .ok (.ireturn, 1) := by decide +kernel
theorem dJ0_length_8abf5_0 : decode cJ0_length_8abf5 0 = .ok (.aload_n 0, 1) := by decide +kernel
theorem dJ0_length_8abf5_1 : decode cJ0_length_8abf5 1 = .ok (.getfield 9, 3) := by decide +kernel
theorem dJ0_length_8abf5_4 : decode cJ0_length_8abf5 4 = .ok (.arraylength, 1) := by decide +kernel
theorem dJ0_length_8abf5_5 : decode cJ0_length_8abf5 5 = .ok (.aload_n 0, 1) := by decide +kernel
theorem dJ0_length_8abf5_6 : decode cJ0_length_8abf5 6 = .ok (.invokevirtual 335, 3) := by decide +kernel
theorem dJ0_length_8abf5_9 : decode cJ0_length_8abf5 9 = .ok (.ishr, 1) := by decide +kernel
theorem dJ0_length_8abf5_10 : decode cJ0_length_8abf5 10 = .ok (.ireturn, 1) := by decide +kernel
theorem dJ0_charAt_5068e_0 : decode cJ0_charAt_5068e 0 = .ok (.aload_n 0, 1) := by decide +kernel
theorem dJ0_charAt_5068e_1 : decode cJ0_charAt_5068e 1 = .ok (.invokevirtual 492, 3) := by decide +kernel
theorem dJ0_charAt_5068e_4 : decode cJ0_charAt_5068e 4 = .ok (.ifCond .eq 12, 3) := by decide +kernel
theorem dJ0_charAt_5068e_7 : decode cJ0_charAt_5068e 7 = .ok (.aload_n 0, 1) := by decide +kernel
theorem dJ0_charAt_5068e_8 : decode cJ0_charAt_5068e 8 = .ok (.getfield 9, 3) := by decide +kernel
theorem dJ0_charAt_5068e_11 : decode cJ0_charAt_5068e 11 = .ok (.iload_n 1, 1) := by decide +kernel
theorem dJ0_charAt_5068e_12 : decode cJ0_charAt_5068e 12 = .ok (.invokestatic 495, 3) := by decide +kernel
theorem dJ0_charAt_5068e_15 : decode cJ0_charAt_5068e 15 = .ok (.ireturn, 1) := by decide +kernel
theorem dJ0_charAt_5068e_16 : decode cJ0_charAt_5068e 16 = .ok (.aload_n 0, 1) := by decide +kernel
theorem dJ0_charAt_5068e_17 : decode cJ0_charAt_5068e 17 = .ok (.getfield 9, 3) := by decide +kernel
theorem dJ0_charAt_5068e_20 : decode cJ0_charAt_5068e 20 = .ok (.iload_n 1, 1) := by decide +kernel
theorem dJ0_charAt_5068e_21 : decode cJ0_charAt_5068e 21 = .ok (.invokestatic 498, 3) := by decide +kernel
theorem dJ0_charAt_5068e_24 : decode cJ0_charAt_5068e 24 = .ok (.ireturn, 1) := by decide +kernel
theorem dJ0_coder_7d493_0 : decode cJ0_coder_7d493 0 = .ok (.getstatic 38, 3) := by decide +kernel
theorem dJ0_coder_7d493_3 : decode cJ0_coder_7d493 3 = .ok (.ifCond .eq 10, 3) := by decide +kernel
theorem dJ0_coder_7d493_6 : decode cJ0_coder_7d493 6 = .ok (.aload_n 0, 1) := by decide +kernel
theorem dJ0_coder_7d493_7 : decode cJ0_coder_7d493 7 = .ok (.getfield 15, 3) := by decide +kernel
theorem dJ0_coder_7d493_10 : decode cJ0_coder_7d493 10 = .ok (.goto 4, 3) := by decide +kernel
theorem dJ0_coder_7d493_13 : decode cJ0_coder_7d493 13 = .ok (.iconst 1, 1) := by decide +kernel
theorem dJ0_coder_7d493_14 : decode cJ0_coder_7d493 14 = .ok (.ireturn, 1) := by decide +kernel
theorem dJ0_isLatin1_aae02_0 : decode cJ0_isLatin1_aae02 0 = .ok (.getstatic 38, 3) := by decide +kernel
theorem dJ0_isLatin1_aae02_3 : decode cJ0_isLatin1_aae02 3 = .ok (.ifCond .eq 14, 3) := by decide +kernel
theorem dJ0_isLatin1_aae02_6 : decode cJ0_isLatin1_aae02 6 = .ok (.aload_n 0, 1) := by decide +kernel
theorem dJ0_isLatin1_aae02_7 : decode cJ0_isLatin1_aae02 7 = .ok (.getfield 15, 3) := by decide +kernel
theorem dJ0_isLatin1_aae02_10 : decode cJ0_isLatin1_aae02 10 = .ok (.ifCond .ne 7, 3) := by decide +kernel
theorem dJ0_isLatin1_aae02_13 : decode cJ0_isLatin1_aae02 13 = .ok (.iconst 1, 1) := by decide +kernel
theorem dJ0_isLatin1_aae02_14 : decode cJ0_isLatin1_aae02 14 = .ok (.goto 4, 3) := by decide +kernel
theorem dJ0_isLatin1_aae02_17 : decode cJ0_isLatin1_aae02 17 = .ok (.iconst 0, 1) := by decide +kernel
theorem dJ0_isLatin1_aae02_18 : decode cJ0_isLatin1_aae02 18 = .ok (.ireturn, 1) := by decide +kernel
theorem dJ0_checkIndex_df160_0 : decode cJ0_checkIndex_df160 0 = .ok (.iload_n 0, 1) := by decide +kernel
theorem dJ0_checkIndex_df160_1 : decode cJ0_checkIndex_df160 1 = .ok (.iload_n 1, 1) := by decide +kernel
theorem dJ0_checkIndex_df160_2 : decode cJ0_checkIndex_df160 2 = .ok (.getstatic 1053, 3) := by decide +kernel
theorem dJ0_checkIndex_df160_5 : decode cJ0_checkIndex_df160 5 = .ok (.invokestatic 1059, 3) := by decide +kernel
theorem dJ0_checkIndex_df160_8 : decode cJ0_checkIndex_df160 8 = .ok (.pop, 1) := by decide +kernel
theorem dJ0_checkIndex_df160_9 : decode cJ0_checkIndex_df160 9 = .ok (.return_, 1) := by decide +kernel
theorem dJ1_charAt_3b067_0 : decode cJ1_charAt_3b067 0 = .ok (.iload_n 1, 1) := by decide +kernel
theorem dJ1_charAt_3b067_1 : decode cJ1_charAt_3b067 1 = .ok (.aload_n 0, 1) := by decide +kernel
theorem dJ1_charAt_3b067_2 : decode cJ1_charAt_3b067 2 = .ok (.arraylength, 1) := by decide +kernel
theorem dJ1_charAt_3b067_3 : decode cJ1_charAt_3b067 3 = .ok (.invokestatic 9, 3) := by decide +kernel
theorem dJ1_charAt_3b067_6 : decode cJ1_charAt_3b067 6 = .ok (.aload_n 0, 1) := by decide +kernel
theorem dJ1_charAt_3b067_7 : decode cJ1_charAt_3b067 7 = .ok (.iload_n 1, 1) := by decide +kernel
theorem dJ1_charAt_3b067_8 : decode cJ1_charAt_3b067 8 = .ok (.baload, 1) := by decide +kernel
theorem dJ1_charAt_3b067_9 : decode cJ1_charAt_3b067 9 = .ok (.sipush 255, 3) := by decide +kernel
theorem dJ1_charAt_3b067_12 : decode cJ1_charAt_3b067 12 = .ok (.iand, 1) := by decide +kernel
theorem dJ1_charAt_3b067_13 : decode cJ1_charAt_3b067 13 = .ok (.i2c, 1) := by decide +kernel
theorem dJ1_charAt_3b067_14 : decode cJ1_charAt_3b067 14 = .ok (.ireturn, 1) := by decide +kernel
theorem dJ2_getChar_3b067_0 : decode cJ2_getChar_3b067 0 = .ok (.getstatic 44, 3) := by decide +kernel
theorem dJ2_getChar_3b067_3 : decode cJ2_getChar_3b067 3 = .ok (.ifCond .ne 25, 3) := by decide +kernel
theorem dJ2_getChar_3b067_6 : decode cJ2_getChar_3b067 6 = .ok (.iload_n 1, 1) := by decide +kernel
theorem dJ2_getChar_3b067_7 : decode cJ2_getChar_3b067 7 = .ok (.ifCond .lt 11, 3) := by decide +kernel
theorem dJ2_getChar_3b067_10 : decode cJ2_getChar_3b067 10 = .ok (.iload_n 1, 1) := by decide +kernel
theorem dJ2_getChar_3b067_11 : decode cJ2_getChar_3b067 11 = .ok (.aload_n 0, 1) := by decide +kernel
theorem dJ2_getChar_3b067_12 : decode cJ2_getChar_3b067 12 = .ok (.invokestatic 48, 3) := by decide +kernel
theorem dJ2_getChar_3b067_15 : decode cJ2_getChar_3b067 15 = .ok (.if_icmp .lt 13, 3) := by decide +kernel
theorem dJ2_getChar_3b067_18 : decode cJ2_getChar_3b067 18 = .ok (.new 52, 3) := by decide +kernel
theorem dJ2_getChar_3b067_21 : decode cJ2_getChar_3b067 21 = .ok (.dup, 1) := by decide +kernel
theorem dJ2_getChar_3b067_22 : decode cJ2_getChar_3b067 22 = .ok (.ldc 54, 2) := by decide +kernel
theorem dJ2_getChar_3b067_24 : decode cJ2_getChar_3b067 24 = .ok (.invokespecial 56, 3) := by decide +kernel
theorem dJ2_getChar_3b067_27 : decode cJ2_getChar_3b067 27 = .ok (.athrow, 1) := by decide +kernel
theorem dJ2_getChar_3b067_28 : decode cJ2_getChar_3b067 28 = .ok (.iload_n 1, 1) := by decide +kernel
theorem dJ2_getChar_3b067_29 : decode cJ2_getChar_3b067 29 = .ok (.iconst 1, 1) := by decide +kernel
theorem dJ2_getChar_3b067_30 : decode cJ2_getChar_3b067 30 = .ok (.ishl, 1) := by decide +kernel
theorem dJ2_getChar_3b067_31 : decode cJ2_getChar_3b067 31 = .ok (.istore_n 1, 1) := by decide +kernel
theorem dJ2_getChar_3b067_32 : decode cJ2_getChar_3b067 32 = .ok (.aload_n 0, 1) := by decide +kernel
theorem dJ2_getChar_3b067_33 : decode cJ2_getChar_3b067 33 = .ok (.iload_n 1, 1) := by decide +kernel
theorem dJ2_getChar_3b067_34 : decode cJ2_getChar_3b067 34 = .ok (.iinc 1 1, 3) := by decide +kernel
theorem dJ2_getChar_3b067_37 : decode cJ2_getChar_3b067 37 = .ok (.baload, 1) := by decide +kernel
theorem dJ2_getChar_3b067_38 : decode cJ2_getChar_3b067 38 = .ok (.sipush 255, 3) := by decide +kernel
theorem dJ2_getChar_3b067_41 : decode cJ2_getChar_3b067 41 = .ok (.iand, 1) := by decide +kernel
theorem dJ2_getChar_3b067_42 : decode cJ2_getChar_3b067 42 = .ok (.getstatic 59, 3) := by decide +kernel
theorem dJ2_getChar_3b067_45 : decode cJ2_getChar_3b067 45 = .ok (.ishl, 1) := by decide +kernel
theorem dJ2_getChar_3b067_46 : decode cJ2_getChar_3b067 46 = .ok (.aload_n 0, 1) := by decide +kernel
theorem dJ2_getChar_3b067_47 : decode cJ2_getChar_3b067 47 = .ok (.iload_n 1, 1) := by decide +kernel
theorem dJ2_getChar_3b067_48 : decode cJ2_getChar_3b067 48 = .ok (.baload, 1) := by decide +kernel
theorem dJ2_getChar_3b067_49 : decode cJ2_getChar_3b067 49 = .ok (.sipush 255, 3) := by decide +kernel
theorem dJ2_getChar_3b067_52 : decode cJ2_getChar_3b067 52 = .ok (.iand, 1) := by decide +kernel
theorem dJ2_getChar_3b067_53 : decode cJ2_getChar_3b067 53 = .ok (.getstatic 63, 3) := by decide +kernel
theorem dJ2_getChar_3b067_56 : decode cJ2_getChar_3b067 56 = .ok (.ishl, 1) := by decide +kernel
theorem dJ2_getChar_3b067_57 : decode cJ2_getChar_3b067 57 = .ok (.ior, 1) := by decide +kernel
theorem dJ2_getChar_3b067_58 : decode cJ2_getChar_3b067 58 = .ok (.i2c, 1) := by decide +kernel
theorem dJ2_getChar_3b067_59 : decode cJ2_getChar_3b067 59 = .ok (.ireturn, 1) := by decide +kernel
theorem dJ2_length_9d52b_0 : decode cJ2_length_9d52b 0 = .ok (.aload_n 0, 1) := by decide +kernel
theorem dJ2_length_9d52b_1 : decode cJ2_length_9d52b 1 = .ok (.arraylength, 1) := by decide +kernel
theorem dJ2_length_9d52b_2 : decode cJ2_length_9d52b 2 = .ok (.iconst 1, 1) := by decide +kernel
theorem dJ2_length_9d52b_3 : decode cJ2_length_9d52b 3 = .ok (.ishr, 1) := by decide +kernel
theorem dJ2_length_9d52b_4 : decode cJ2_length_9d52b 4 = .ok (.ireturn, 1) := by decide +kernel
theorem dJ2_charAt_3b067_0 : decode cJ2_charAt_3b067 0 = .ok (.iload_n 1, 1) := by decide +kernel
theorem dJ2_charAt_3b067_1 : decode cJ2_charAt_3b067 1 = .ok (.aload_n 0, 1) := by decide +kernel
theorem dJ2_charAt_3b067_2 : decode cJ2_charAt_3b067 2 = .ok (.invokestatic 67, 3) := by decide +kernel
theorem dJ2_charAt_3b067_5 : decode cJ2_charAt_3b067 5 = .ok (.aload_n 0, 1) := by decide +kernel
theorem dJ2_charAt_3b067_6 : decode cJ2_charAt_3b067 6 = .ok (.iload_n 1, 1) := by decide +kernel
theorem dJ2_charAt_3b067_7 : decode cJ2_charAt_3b067 7 = .ok (.invokestatic 71, 3) := by decide +kernel
theorem dJ2_charAt_3b067_10 : decode cJ2_charAt_3b067 10 = .ok (.ireturn, 1) := by decide +kernel
theorem dJ2_checkIndex_2214a_0 : decode cJ2_checkIndex_2214a 0 = .ok (.iload_n 0, 1) := by decide +kernel
theorem dJ2_checkIndex_2214a_1 : decode cJ2_checkIndex_2214a 1 = .ok (.aload_n 1, 1) := by decide +kernel
theorem dJ2_checkIndex_2214a_2 : decode cJ2_checkIndex_2214a 2 = .ok (.invokestatic 48, 3) := by decide +kernel
theorem dJ2_checkIndex_2214a_5 : decode cJ2_checkIndex_2214a 5 = .ok (.invokestatic 414, 3) := by decide +kernel
theorem dJ2_checkIndex_2214a_8 : decode cJ2_checkIndex_2214a 8 = .ok (.return_, 1) := by decide +kernel
theorem dJ3_checkIndex_8e157_0 : decode cJ3_checkIndex_8e157 0 = .ok (.iload_n 0, 1) := by decide +kernel
theorem dJ3_checkIndex_8e157_1 : decode cJ3_checkIndex_8e157 1 = .ok (.ifCond .lt 8, 3) := by decide +kernel
theorem dJ3_checkIndex_8e157_4 : decode cJ3_checkIndex_8e157 4 = .ok (.iload_n 0, 1) := by decide +kernel
theorem dJ3_checkIndex_8e157_5 : decode cJ3_checkIndex_8e157 5 = .ok (.iload_n 1, 1) := by decide +kernel
theorem dJ3_checkIndex_8e157_6 : decode cJ3_checkIndex_8e157 6 = .ok (.if_icmp .lt 10, 3) := by decide +kernel
theorem dJ3_checkIndex_8e157_9 : decode cJ3_checkIndex_8e157 9 = .ok (.aload_n 2, 1) := by decide +kernel
theorem dJ3_checkIndex_8e157_10 : decode cJ3_checkIndex_8e157 10 = .ok (.iload_n 0, 1) := by decide +kernel
theorem dJ3_checkIndex_8e157_11 : decode cJ3_checkIndex_8e157 11 = .ok (.iload_n 1, 1) := by decide +kernel
theorem dJ3_checkIndex_8e157_12 : decode cJ3_checkIndex_8e157 12 = .ok (.invokestatic 95, 3) := by decide +kernel
theorem dJ3_checkIndex_8e157_15 : decode cJ3_checkIndex_8e157 15 = .ok (.athrow, 1) := by decide +kernel
theorem dJ3_checkIndex_8e157_16 : decode cJ3_checkIndex_8e157 16 = .ok (.iload_n 0, 1) := by decide +kernel
theorem dJ3_checkIndex_8e157_17 : decode cJ3_checkIndex_8e157 17 = .ok (.ireturn, 1) := by decide +kernel
