theorem F_Law_amount_0 : fetch m_Law_amount 0 = some (.aload_n 0) := by decide +kernel
theorem F_Law_amount_1 : fetch m_Law_amount 1 = some (.iload_n 1) := by decide +kernel
theorem F_Law_amount_2 : fetch m_Law_amount 2 = some (.iload_n 2) := by decide +kernel
theorem F_Law_amount_3 : fetch m_Law_amount 3 = some (.invokevirtual 7) := by decide +kernel
theorem F_Law_amount_6 : fetch m_Law_amount 6 = some (.goto 6) := by decide +kernel
theorem F_Law_amount_9 : fetch m_Law_amount 9 = some (.astore_n 3) := by decide +kernel
theorem F_Law_amount_10 : fetch m_Law_amount 10 = some (.iconst 1) := by decide +kernel
theorem F_Law_amount_11 : fetch m_Law_amount 11 = some (.ireturn) := by decide +kernel
theorem F_Law_amount_12 : fetch m_Law_amount 12 = some (.iconst 0) := by decide +kernel
theorem F_Law_amount_13 : fetch m_Law_amount 13 = some (.ireturn) := by decide +kernel
theorem F_Law_moment_0 : fetch m_Law_moment 0 = some (.aload_n 0) := by decide +kernel
theorem F_Law_moment_1 : fetch m_Law_moment 1 = some (.iload_n 1) := by decide +kernel
theorem F_Law_moment_2 : fetch m_Law_moment 2 = some (.iload_n 2) := by decide +kernel
theorem F_Law_moment_3 : fetch m_Law_moment 3 = some (.invokevirtual 15) := by decide +kernel
theorem F_Law_moment_6 : fetch m_Law_moment 6 = some (.goto 6) := by decide +kernel
theorem F_Law_moment_9 : fetch m_Law_moment 9 = some (.astore_n 3) := by decide +kernel
theorem F_Law_moment_10 : fetch m_Law_moment 10 = some (.iconst 1) := by decide +kernel
theorem F_Law_moment_11 : fetch m_Law_moment 11 = some (.ireturn) := by decide +kernel
theorem F_Law_moment_12 : fetch m_Law_moment 12 = some (.iconst 0) := by decide +kernel
theorem F_Law_moment_13 : fetch m_Law_moment 13 = some (.ireturn) := by decide +kernel
theorem F_Law_epsilon_0 : fetch m_Law_epsilon 0 = some (.aload_n 0) := by decide +kernel
theorem F_Law_epsilon_1 : fetch m_Law_epsilon 1 = some (.invokevirtual 18) := by decide +kernel
theorem F_Law_epsilon_4 : fetch m_Law_epsilon 4 = some (.goto 6) := by decide +kernel
theorem F_Law_epsilon_7 : fetch m_Law_epsilon 7 = some (.astore_n 1) := by decide +kernel
theorem F_Law_epsilon_8 : fetch m_Law_epsilon 8 = some (.iconst 1) := by decide +kernel
theorem F_Law_epsilon_9 : fetch m_Law_epsilon 9 = some (.ireturn) := by decide +kernel
theorem F_Law_epsilon_10 : fetch m_Law_epsilon 10 = some (.iconst 0) := by decide +kernel
theorem F_Law_epsilon_11 : fetch m_Law_epsilon 11 = some (.ireturn) := by decide +kernel
theorem F_Law_fact_0 : fetch m_Law_fact 0 = some (.aload_n 0) := by decide +kernel
theorem F_Law_fact_1 : fetch m_Law_fact 1 = some (.iload_n 1) := by decide +kernel
theorem F_Law_fact_2 : fetch m_Law_fact 2 = some (.iload_n 2) := by decide +kernel
theorem F_Law_fact_3 : fetch m_Law_fact 3 = some (.invokevirtual 21) := by decide +kernel
theorem F_Law_fact_6 : fetch m_Law_fact 6 = some (.goto 6) := by decide +kernel
theorem F_Law_fact_9 : fetch m_Law_fact 9 = some (.astore_n 3) := by decide +kernel
theorem F_Law_fact_10 : fetch m_Law_fact 10 = some (.iconst 1) := by decide +kernel
theorem F_Law_fact_11 : fetch m_Law_fact 11 = some (.ireturn) := by decide +kernel
theorem F_Law_fact_12 : fetch m_Law_fact 12 = some (.iconst 0) := by decide +kernel
theorem F_Law_fact_13 : fetch m_Law_fact 13 = some (.ireturn) := by decide +kernel
theorem F_Law_number_0 : fetch m_Law_number 0 = some (.aload_n 0) := by decide +kernel
theorem F_Law_number_1 : fetch m_Law_number 1 = some (.iload_n 1) := by decide +kernel
theorem F_Law_number_2 : fetch m_Law_number 2 = some (.invokevirtual 27) := by decide +kernel
theorem F_Law_number_5 : fetch m_Law_number 5 = some (.goto 6) := by decide +kernel
theorem F_Law_number_8 : fetch m_Law_number 8 = some (.astore_n 2) := by decide +kernel
theorem F_Law_number_9 : fetch m_Law_number 9 = some (.iconst 1) := by decide +kernel
theorem F_Law_number_10 : fetch m_Law_number 10 = some (.ireturn) := by decide +kernel
theorem F_Law_number_11 : fetch m_Law_number 11 = some (.iconst 0) := by decide +kernel
theorem F_Law_number_12 : fetch m_Law_number 12 = some (.ireturn) := by decide +kernel
theorem F_Law_wish_0 : fetch m_Law_wish 0 = some (.aload_n 0) := by decide +kernel
theorem F_Law_wish_1 : fetch m_Law_wish 1 = some (.iload_n 1) := by decide +kernel
theorem F_Law_wish_2 : fetch m_Law_wish 2 = some (.iload_n 2) := by decide +kernel
theorem F_Law_wish_3 : fetch m_Law_wish 3 = some (.invokevirtual 31) := by decide +kernel
theorem F_Law_wish_6 : fetch m_Law_wish 6 = some (.goto 9) := by decide +kernel
theorem F_Law_wish_9 : fetch m_Law_wish 9 = some (.astore_n 3) := by decide +kernel
theorem F_Law_wish_10 : fetch m_Law_wish 10 = some (.iconst 1) := by decide +kernel
theorem F_Law_wish_11 : fetch m_Law_wish 11 = some (.ireturn) := by decide +kernel
theorem F_Law_wish_12 : fetch m_Law_wish 12 = some (.astore_n 3) := by decide +kernel
theorem F_Law_wish_13 : fetch m_Law_wish 13 = some (.iconst 2) := by decide +kernel
theorem F_Law_wish_14 : fetch m_Law_wish 14 = some (.ireturn) := by decide +kernel
theorem F_Law_wish_15 : fetch m_Law_wish 15 = some (.iconst 0) := by decide +kernel
theorem F_Law_wish_16 : fetch m_Law_wish 16 = some (.ireturn) := by decide +kernel
theorem F_Law_want_0 : fetch m_Law_want 0 = some (.aload_n 0) := by decide +kernel
theorem F_Law_want_1 : fetch m_Law_want 1 = some (.iload_n 1) := by decide +kernel
theorem F_Law_want_2 : fetch m_Law_want 2 = some (.iload_n 2) := by decide +kernel
theorem F_Law_want_3 : fetch m_Law_want 3 = some (.invokevirtual 34) := by decide +kernel
theorem F_Law_want_6 : fetch m_Law_want 6 = some (.goto 9) := by decide +kernel
theorem F_Law_want_9 : fetch m_Law_want 9 = some (.astore_n 3) := by decide +kernel
theorem F_Law_want_10 : fetch m_Law_want 10 = some (.iconst 1) := by decide +kernel
theorem F_Law_want_11 : fetch m_Law_want 11 = some (.ireturn) := by decide +kernel
theorem F_Law_want_12 : fetch m_Law_want 12 = some (.astore_n 3) := by decide +kernel
theorem F_Law_want_13 : fetch m_Law_want 13 = some (.iconst 2) := by decide +kernel
theorem F_Law_want_14 : fetch m_Law_want 14 = some (.ireturn) := by decide +kernel
theorem F_Law_want_15 : fetch m_Law_want 15 = some (.iconst 0) := by decide +kernel
theorem F_Law_want_16 : fetch m_Law_want 16 = some (.ireturn) := by decide +kernel
theorem F_Law_action_0 : fetch m_Law_action 0 = some (.aload_n 1) := by decide +kernel
theorem F_Law_action_1 : fetch m_Law_action 1 = some (.iconst 0) := by decide +kernel
theorem F_Law_action_2 : fetch m_Law_action 2 = some (.aload_n 0) := by decide +kernel
theorem F_Law_action_3 : fetch m_Law_action 3 = some (.invokevirtual 37) := by decide +kernel
theorem F_Law_action_6 : fetch m_Law_action 6 = some (.i2l) := by decide +kernel
theorem F_Law_action_7 : fetch m_Law_action 7 = some (.lastore) := by decide +kernel
theorem F_Law_action_8 : fetch m_Law_action 8 = some (.goto 6) := by decide +kernel
theorem F_Law_action_11 : fetch m_Law_action 11 = some (.astore_n 2) := by decide +kernel
theorem F_Law_action_12 : fetch m_Law_action 12 = some (.iconst 1) := by decide +kernel
theorem F_Law_action_13 : fetch m_Law_action 13 = some (.ireturn) := by decide +kernel
theorem F_Law_action_14 : fetch m_Law_action 14 = some (.iconst 0) := by decide +kernel
theorem F_Law_action_15 : fetch m_Law_action 15 = some (.ireturn) := by decide +kernel
theorem F_Law_need_0 : fetch m_Law_need 0 = some (.aload_n 0) := by decide +kernel
theorem F_Law_need_1 : fetch m_Law_need 1 = some (.iload_n 1) := by decide +kernel
theorem F_Law_need_2 : fetch m_Law_need 2 = some (.iload_n 2) := by decide +kernel
theorem F_Law_need_3 : fetch m_Law_need 3 = some (.iload_n 3) := by decide +kernel
theorem F_Law_need_4 : fetch m_Law_need 4 = some (.iload 4) := by decide +kernel
theorem F_Law_need_6 : fetch m_Law_need 6 = some (.invokevirtual 43) := by decide +kernel
theorem F_Law_need_9 : fetch m_Law_need 9 = some (.goto 15) := by decide +kernel
theorem F_Law_need_12 : fetch m_Law_need 12 = some (.astore 5) := by decide +kernel
theorem F_Law_need_14 : fetch m_Law_need 14 = some (.iconst 1) := by decide +kernel
theorem F_Law_need_15 : fetch m_Law_need 15 = some (.ireturn) := by decide +kernel
theorem F_Law_need_16 : fetch m_Law_need 16 = some (.astore 5) := by decide +kernel
theorem F_Law_need_18 : fetch m_Law_need 18 = some (.iconst 2) := by decide +kernel
theorem F_Law_need_19 : fetch m_Law_need 19 = some (.ireturn) := by decide +kernel
theorem F_Law_need_20 : fetch m_Law_need 20 = some (.astore 5) := by decide +kernel
theorem F_Law_need_22 : fetch m_Law_need 22 = some (.iconst 3) := by decide +kernel
theorem F_Law_need_23 : fetch m_Law_need 23 = some (.ireturn) := by decide +kernel
theorem F_Law_need_24 : fetch m_Law_need 24 = some (.iconst 0) := by decide +kernel
theorem F_Law_need_25 : fetch m_Law_need 25 = some (.ireturn) := by decide +kernel
theorem F_Law_compare_0 : fetch m_Law_compare 0 = some (.aload_n 0) := by decide +kernel
theorem F_Law_compare_1 : fetch m_Law_compare 1 = some (.iload_n 1) := by decide +kernel
theorem F_Law_compare_2 : fetch m_Law_compare 2 = some (.iload_n 2) := by decide +kernel
theorem F_Law_compare_3 : fetch m_Law_compare 3 = some (.iload_n 3) := by decide +kernel
theorem F_Law_compare_4 : fetch m_Law_compare 4 = some (.iload 4) := by decide +kernel
theorem F_Law_compare_6 : fetch m_Law_compare 6 = some (.invokevirtual 47) := by decide +kernel
theorem F_Law_compare_9 : fetch m_Law_compare 9 = some (.goto 15) := by decide +kernel
theorem F_Law_compare_12 : fetch m_Law_compare 12 = some (.astore 5) := by decide +kernel
theorem F_Law_compare_14 : fetch m_Law_compare 14 = some (.iconst 1) := by decide +kernel
theorem F_Law_compare_15 : fetch m_Law_compare 15 = some (.ireturn) := by decide +kernel
theorem F_Law_compare_16 : fetch m_Law_compare 16 = some (.astore 5) := by decide +kernel
theorem F_Law_compare_18 : fetch m_Law_compare 18 = some (.iconst 2) := by decide +kernel
theorem F_Law_compare_19 : fetch m_Law_compare 19 = some (.ireturn) := by decide +kernel
theorem F_Law_compare_20 : fetch m_Law_compare 20 = some (.astore 5) := by decide +kernel
theorem F_Law_compare_22 : fetch m_Law_compare 22 = some (.iconst 3) := by decide +kernel
theorem F_Law_compare_23 : fetch m_Law_compare 23 = some (.ireturn) := by decide +kernel
theorem F_Law_compare_24 : fetch m_Law_compare 24 = some (.iconst 0) := by decide +kernel
theorem F_Law_compare_25 : fetch m_Law_compare 25 = some (.ireturn) := by decide +kernel
theorem F_Law_make_0 : fetch m_Law_make 0 = some (.aload_n 0) := by decide +kernel
theorem F_Law_make_1 : fetch m_Law_make 1 = some (.iload_n 1) := by decide +kernel
theorem F_Law_make_2 : fetch m_Law_make 2 = some (.iload_n 2) := by decide +kernel
theorem F_Law_make_3 : fetch m_Law_make 3 = some (.iload_n 3) := by decide +kernel
theorem F_Law_make_4 : fetch m_Law_make 4 = some (.iload 4) := by decide +kernel
theorem F_Law_make_6 : fetch m_Law_make 6 = some (.invokevirtual 51) := by decide +kernel
theorem F_Law_make_9 : fetch m_Law_make 9 = some (.goto 15) := by decide +kernel
theorem F_Law_make_12 : fetch m_Law_make 12 = some (.astore 5) := by decide +kernel
theorem F_Law_make_14 : fetch m_Law_make 14 = some (.iconst 1) := by decide +kernel
theorem F_Law_make_15 : fetch m_Law_make 15 = some (.ireturn) := by decide +kernel
theorem F_Law_make_16 : fetch m_Law_make 16 = some (.astore 5) := by decide +kernel
theorem F_Law_make_18 : fetch m_Law_make 18 = some (.iconst 2) := by decide +kernel
theorem F_Law_make_19 : fetch m_Law_make 19 = some (.ireturn) := by decide +kernel
theorem F_Law_make_20 : fetch m_Law_make 20 = some (.astore 5) := by decide +kernel
theorem F_Law_make_22 : fetch m_Law_make 22 = some (.iconst 3) := by decide +kernel
theorem F_Law_make_23 : fetch m_Law_make 23 = some (.ireturn) := by decide +kernel
theorem F_Law_make_24 : fetch m_Law_make 24 = some (.iconst 0) := by decide +kernel
theorem F_Law_make_25 : fetch m_Law_make 25 = some (.ireturn) := by decide +kernel
theorem F_Law_change_0 : fetch m_Law_change 0 = some (.aload_n 0) := by decide +kernel
theorem F_Law_change_1 : fetch m_Law_change 1 = some (.iload_n 1) := by decide +kernel
theorem F_Law_change_2 : fetch m_Law_change 2 = some (.iload_n 2) := by decide +kernel
theorem F_Law_change_3 : fetch m_Law_change 3 = some (.iload_n 3) := by decide +kernel
theorem F_Law_change_4 : fetch m_Law_change 4 = some (.iload 4) := by decide +kernel
theorem F_Law_change_6 : fetch m_Law_change 6 = some (.invokevirtual 54) := by decide +kernel
theorem F_Law_change_9 : fetch m_Law_change 9 = some (.goto 15) := by decide +kernel
theorem F_Law_change_12 : fetch m_Law_change 12 = some (.astore 5) := by decide +kernel
theorem F_Law_change_14 : fetch m_Law_change 14 = some (.iconst 1) := by decide +kernel
theorem F_Law_change_15 : fetch m_Law_change 15 = some (.ireturn) := by decide +kernel
theorem F_Law_change_16 : fetch m_Law_change 16 = some (.astore 5) := by decide +kernel
theorem F_Law_change_18 : fetch m_Law_change 18 = some (.iconst 2) := by decide +kernel
theorem F_Law_change_19 : fetch m_Law_change 19 = some (.ireturn) := by decide +kernel
theorem F_Law_change_20 : fetch m_Law_change 20 = some (.astore 5) := by decide +kernel
theorem F_Law_change_22 : fetch m_Law_change 22 = some (.iconst 3) := by decide +kernel
theorem F_Law_change_23 : fetch m_Law_change 23 = some (.ireturn) := by decide +kernel
theorem F_Law_change_24 : fetch m_Law_change 24 = some (.iconst 0) := by decide +kernel
theorem F_Law_change_25 : fetch m_Law_change 25 = some (.ireturn) := by decide +kernel
theorem F_Law_last_0 : fetch m_Law_last 0 = some (.aload_n 0) := by decide +kernel
theorem F_Law_last_1 : fetch m_Law_last 1 = some (.iload_n 1) := by decide +kernel
theorem F_Law_last_2 : fetch m_Law_last 2 = some (.iload_n 2) := by decide +kernel
theorem F_Law_last_3 : fetch m_Law_last 3 = some (.iload_n 3) := by decide +kernel
theorem F_Law_last_4 : fetch m_Law_last 4 = some (.invokevirtual 57) := by decide +kernel
theorem F_Law_last_7 : fetch m_Law_last 7 = some (.goto 11) := by decide +kernel
theorem F_Law_last_10 : fetch m_Law_last 10 = some (.astore 4) := by decide +kernel
theorem F_Law_last_12 : fetch m_Law_last 12 = some (.iconst 1) := by decide +kernel
theorem F_Law_last_13 : fetch m_Law_last 13 = some (.ireturn) := by decide +kernel
theorem F_Law_last_14 : fetch m_Law_last 14 = some (.astore 4) := by decide +kernel
theorem F_Law_last_16 : fetch m_Law_last 16 = some (.iconst 2) := by decide +kernel
theorem F_Law_last_17 : fetch m_Law_last 17 = some (.ireturn) := by decide +kernel
theorem F_Law_last_18 : fetch m_Law_last 18 = some (.iconst 0) := by decide +kernel
theorem F_Law_last_19 : fetch m_Law_last 19 = some (.ireturn) := by decide +kernel
theorem F_Law_step_0 : fetch m_Law_step 0 = some (.aload_n 2) := by decide +kernel
theorem F_Law_step_1 : fetch m_Law_step 1 = some (.iconst 0) := by decide +kernel
theorem F_Law_step_2 : fetch m_Law_step 2 = some (.aload_n 0) := by decide +kernel
theorem F_Law_step_3 : fetch m_Law_step 3 = some (.iload_n 1) := by decide +kernel
theorem F_Law_step_4 : fetch m_Law_step 4 = some (.invokevirtual 61) := by decide +kernel
theorem F_Law_step_7 : fetch m_Law_step 7 = some (.i2l) := by decide +kernel
theorem F_Law_step_8 : fetch m_Law_step 8 = some (.lastore) := by decide +kernel
theorem F_Law_step_9 : fetch m_Law_step 9 = some (.goto 12) := by decide +kernel
theorem F_Law_step_12 : fetch m_Law_step 12 = some (.astore_n 3) := by decide +kernel
theorem F_Law_step_13 : fetch m_Law_step 13 = some (.iconst 1) := by decide +kernel
theorem F_Law_step_14 : fetch m_Law_step 14 = some (.ireturn) := by decide +kernel
theorem F_Law_step_15 : fetch m_Law_step 15 = some (.astore_n 3) := by decide +kernel
theorem F_Law_step_16 : fetch m_Law_step 16 = some (.iconst 2) := by decide +kernel
theorem F_Law_step_17 : fetch m_Law_step 17 = some (.ireturn) := by decide +kernel
theorem F_Law_step_18 : fetch m_Law_step 18 = some (.astore_n 3) := by decide +kernel
theorem F_Law_step_19 : fetch m_Law_step 19 = some (.iconst 3) := by decide +kernel
theorem F_Law_step_20 : fetch m_Law_step 20 = some (.ireturn) := by decide +kernel
theorem F_Law_step_21 : fetch m_Law_step 21 = some (.iconst 0) := by decide +kernel
theorem F_Law_step_22 : fetch m_Law_step 22 = some (.ireturn) := by decide +kernel
theorem F_Law_push_0 : fetch m_Law_push 0 = some (.aload_n 0) := by decide +kernel
theorem F_Law_push_1 : fetch m_Law_push 1 = some (.iload_n 1) := by decide +kernel
theorem F_Law_push_2 : fetch m_Law_push 2 = some (.invokevirtual 65) := by decide +kernel
theorem F_Law_push_5 : fetch m_Law_push 5 = some (.goto 9) := by decide +kernel
theorem F_Law_push_8 : fetch m_Law_push 8 = some (.astore_n 2) := by decide +kernel
theorem F_Law_push_9 : fetch m_Law_push 9 = some (.iconst 1) := by decide +kernel
theorem F_Law_push_10 : fetch m_Law_push 10 = some (.ireturn) := by decide +kernel
theorem F_Law_push_11 : fetch m_Law_push 11 = some (.astore_n 2) := by decide +kernel
theorem F_Law_push_12 : fetch m_Law_push 12 = some (.iconst 2) := by decide +kernel
theorem F_Law_push_13 : fetch m_Law_push 13 = some (.ireturn) := by decide +kernel
theorem F_Law_push_14 : fetch m_Law_push 14 = some (.iconst 0) := by decide +kernel
theorem F_Law_push_15 : fetch m_Law_push 15 = some (.ireturn) := by decide +kernel
theorem F_Law_arrange_0 : fetch m_Law_arrange 0 = some (.aload_n 1) := by decide +kernel
theorem F_Law_arrange_1 : fetch m_Law_arrange 1 = some (.iconst 0) := by decide +kernel
theorem F_Law_arrange_2 : fetch m_Law_arrange 2 = some (.aload_n 0) := by decide +kernel
theorem F_Law_arrange_3 : fetch m_Law_arrange 3 = some (.invokevirtual 68) := by decide +kernel
theorem F_Law_arrange_6 : fetch m_Law_arrange 6 = some (.i2l) := by decide +kernel
theorem F_Law_arrange_7 : fetch m_Law_arrange 7 = some (.lastore) := by decide +kernel
theorem F_Law_arrange_8 : fetch m_Law_arrange 8 = some (.goto 6) := by decide +kernel
theorem F_Law_arrange_11 : fetch m_Law_arrange 11 = some (.astore_n 2) := by decide +kernel
theorem F_Law_arrange_12 : fetch m_Law_arrange 12 = some (.iconst 1) := by decide +kernel
theorem F_Law_arrange_13 : fetch m_Law_arrange 13 = some (.ireturn) := by decide +kernel
theorem F_Law_arrange_14 : fetch m_Law_arrange 14 = some (.iconst 0) := by decide +kernel
theorem F_Law_arrange_15 : fetch m_Law_arrange 15 = some (.ireturn) := by decide +kernel
theorem F_Law_seek_0 : fetch m_Law_seek 0 = some (.aload_n 2) := by decide +kernel
theorem F_Law_seek_1 : fetch m_Law_seek 1 = some (.iconst 0) := by decide +kernel
theorem F_Law_seek_2 : fetch m_Law_seek 2 = some (.aload_n 0) := by decide +kernel
theorem F_Law_seek_3 : fetch m_Law_seek 3 = some (.iload_n 1) := by decide +kernel
theorem F_Law_seek_4 : fetch m_Law_seek 4 = some (.invokevirtual 71) := by decide +kernel
theorem F_Law_seek_7 : fetch m_Law_seek 7 = some (.i2l) := by decide +kernel
theorem F_Law_seek_8 : fetch m_Law_seek 8 = some (.lastore) := by decide +kernel
theorem F_Law_seek_9 : fetch m_Law_seek 9 = some (.goto 6) := by decide +kernel
theorem F_Law_seek_12 : fetch m_Law_seek 12 = some (.astore_n 3) := by decide +kernel
theorem F_Law_seek_13 : fetch m_Law_seek 13 = some (.iconst 1) := by decide +kernel
theorem F_Law_seek_14 : fetch m_Law_seek 14 = some (.ireturn) := by decide +kernel
theorem F_Law_seek_15 : fetch m_Law_seek 15 = some (.iconst 0) := by decide +kernel
theorem F_Law_seek_16 : fetch m_Law_seek 16 = some (.ireturn) := by decide +kernel
theorem F_Law_count_0 : fetch m_Law_count 0 = some (.aload_n 2) := by decide +kernel
theorem F_Law_count_1 : fetch m_Law_count 1 = some (.iconst 0) := by decide +kernel
theorem F_Law_count_2 : fetch m_Law_count 2 = some (.aload_n 0) := by decide +kernel
theorem F_Law_count_3 : fetch m_Law_count 3 = some (.iload_n 1) := by decide +kernel
theorem F_Law_count_4 : fetch m_Law_count 4 = some (.invokevirtual 74) := by decide +kernel
theorem F_Law_count_7 : fetch m_Law_count 7 = some (.i2l) := by decide +kernel
theorem F_Law_count_8 : fetch m_Law_count 8 = some (.lastore) := by decide +kernel
theorem F_Law_count_9 : fetch m_Law_count 9 = some (.goto 6) := by decide +kernel
theorem F_Law_count_12 : fetch m_Law_count 12 = some (.astore_n 3) := by decide +kernel
theorem F_Law_count_13 : fetch m_Law_count 13 = some (.iconst 1) := by decide +kernel
theorem F_Law_count_14 : fetch m_Law_count 14 = some (.ireturn) := by decide +kernel
theorem F_Law_count_15 : fetch m_Law_count 15 = some (.iconst 0) := by decide +kernel
theorem F_Law_count_16 : fetch m_Law_count 16 = some (.ireturn) := by decide +kernel
theorem F_Law_done_0 : fetch m_Law_done 0 = some (.aload_n 2) := by decide +kernel
theorem F_Law_done_1 : fetch m_Law_done 1 = some (.iconst 0) := by decide +kernel
theorem F_Law_done_2 : fetch m_Law_done 2 = some (.aload_n 0) := by decide +kernel
theorem F_Law_done_3 : fetch m_Law_done 3 = some (.iload_n 1) := by decide +kernel
theorem F_Law_done_4 : fetch m_Law_done 4 = some (.invokevirtual 77) := by decide +kernel
theorem F_Law_done_7 : fetch m_Law_done 7 = some (.i2l) := by decide +kernel
theorem F_Law_done_8 : fetch m_Law_done 8 = some (.lastore) := by decide +kernel
theorem F_Law_done_9 : fetch m_Law_done 9 = some (.goto 6) := by decide +kernel
theorem F_Law_done_12 : fetch m_Law_done 12 = some (.astore_n 3) := by decide +kernel
theorem F_Law_done_13 : fetch m_Law_done 13 = some (.iconst 1) := by decide +kernel
theorem F_Law_done_14 : fetch m_Law_done 14 = some (.ireturn) := by decide +kernel
theorem F_Law_done_15 : fetch m_Law_done 15 = some (.iconst 0) := by decide +kernel
theorem F_Law_done_16 : fetch m_Law_done 16 = some (.ireturn) := by decide +kernel
theorem F_Law_above_0 : fetch m_Law_above 0 = some (.aload_n 3) := by decide +kernel
theorem F_Law_above_1 : fetch m_Law_above 1 = some (.iconst 0) := by decide +kernel
theorem F_Law_above_2 : fetch m_Law_above 2 = some (.aload_n 0) := by decide +kernel
theorem F_Law_above_3 : fetch m_Law_above 3 = some (.iload_n 1) := by decide +kernel
theorem F_Law_above_4 : fetch m_Law_above 4 = some (.iload_n 2) := by decide +kernel
theorem F_Law_above_5 : fetch m_Law_above 5 = some (.invokevirtual 80) := by decide +kernel
theorem F_Law_above_8 : fetch m_Law_above 8 = some (.lastore) := by decide +kernel
theorem F_Law_above_9 : fetch m_Law_above 9 = some (.goto 11) := by decide +kernel
theorem F_Law_above_12 : fetch m_Law_above 12 = some (.astore 4) := by decide +kernel
theorem F_Law_above_14 : fetch m_Law_above 14 = some (.iconst 1) := by decide +kernel
theorem F_Law_above_15 : fetch m_Law_above 15 = some (.ireturn) := by decide +kernel
theorem F_Law_above_16 : fetch m_Law_above 16 = some (.astore 4) := by decide +kernel
theorem F_Law_above_18 : fetch m_Law_above 18 = some (.iconst 2) := by decide +kernel
theorem F_Law_above_19 : fetch m_Law_above 19 = some (.ireturn) := by decide +kernel
theorem F_Law_above_20 : fetch m_Law_above 20 = some (.iconst 0) := by decide +kernel
theorem F_Law_above_21 : fetch m_Law_above 21 = some (.ireturn) := by decide +kernel
theorem F_Law_below_0 : fetch m_Law_below 0 = some (.aload_n 3) := by decide +kernel
theorem F_Law_below_1 : fetch m_Law_below 1 = some (.iconst 0) := by decide +kernel
theorem F_Law_below_2 : fetch m_Law_below 2 = some (.aload_n 0) := by decide +kernel
theorem F_Law_below_3 : fetch m_Law_below 3 = some (.iload_n 1) := by decide +kernel
theorem F_Law_below_4 : fetch m_Law_below 4 = some (.iload_n 2) := by decide +kernel
theorem F_Law_below_5 : fetch m_Law_below 5 = some (.invokevirtual 84) := by decide +kernel
theorem F_Law_below_8 : fetch m_Law_below 8 = some (.lastore) := by decide +kernel
theorem F_Law_below_9 : fetch m_Law_below 9 = some (.goto 11) := by decide +kernel
theorem F_Law_below_12 : fetch m_Law_below 12 = some (.astore 4) := by decide +kernel
theorem F_Law_below_14 : fetch m_Law_below 14 = some (.iconst 1) := by decide +kernel
theorem F_Law_below_15 : fetch m_Law_below 15 = some (.ireturn) := by decide +kernel
theorem F_Law_below_16 : fetch m_Law_below 16 = some (.astore 4) := by decide +kernel
theorem F_Law_below_18 : fetch m_Law_below 18 = some (.iconst 2) := by decide +kernel
theorem F_Law_below_19 : fetch m_Law_below 19 = some (.ireturn) := by decide +kernel
theorem F_Law_below_20 : fetch m_Law_below 20 = some (.iconst 0) := by decide +kernel
theorem F_Law_below_21 : fetch m_Law_below 21 = some (.ireturn) := by decide +kernel
theorem F_Law_holds_0 : fetch m_Law_holds 0 = some (.aload_n 2) := by decide +kernel
theorem F_Law_holds_1 : fetch m_Law_holds 1 = some (.iconst 0) := by decide +kernel
theorem F_Law_holds_2 : fetch m_Law_holds 2 = some (.aload_n 0) := by decide +kernel
theorem F_Law_holds_3 : fetch m_Law_holds 3 = some (.iload_n 1) := by decide +kernel
theorem F_Law_holds_4 : fetch m_Law_holds 4 = some (.invokevirtual 87) := by decide +kernel
theorem F_Law_holds_7 : fetch m_Law_holds 7 = some (.ifCond .eq 7) := by decide +kernel
theorem F_Law_holds_10 : fetch m_Law_holds 10 = some (.lconst 1) := by decide +kernel
theorem F_Law_holds_11 : fetch m_Law_holds 11 = some (.goto 4) := by decide +kernel
theorem F_Law_holds_14 : fetch m_Law_holds 14 = some (.lconst 0) := by decide +kernel
theorem F_Law_holds_15 : fetch m_Law_holds 15 = some (.lastore) := by decide +kernel
theorem F_Law_holds_16 : fetch m_Law_holds 16 = some (.goto 6) := by decide +kernel
theorem F_Law_holds_19 : fetch m_Law_holds 19 = some (.astore_n 3) := by decide +kernel
theorem F_Law_holds_20 : fetch m_Law_holds 20 = some (.iconst 1) := by decide +kernel
theorem F_Law_holds_21 : fetch m_Law_holds 21 = some (.ireturn) := by decide +kernel
theorem F_Law_holds_22 : fetch m_Law_holds 22 = some (.iconst 0) := by decide +kernel
theorem F_Law_holds_23 : fetch m_Law_holds 23 = some (.ireturn) := by decide +kernel
theorem F_Law_0 : fetch m_Law 0 = some (.new 8) := by decide +kernel
theorem F_Law_3 : fetch m_Law 3 = some (.dup) := by decide +kernel
theorem F_Law_4 : fetch m_Law 4 = some (.invokespecial 91) := by decide +kernel
theorem F_Law_7 : fetch m_Law 7 = some (.astore_n 1) := by decide +kernel
theorem F_Law_8 : fetch m_Law 8 = some (.new 92) := by decide +kernel
theorem F_Law_11 : fetch m_Law 11 = some (.dup) := by decide +kernel
theorem F_Law_12 : fetch m_Law 12 = some (.invokespecial 94) := by decide +kernel
theorem F_Law_15 : fetch m_Law 15 = some (.astore_n 2) := by decide +kernel
theorem F_Law_16 : fetch m_Law 16 = some (.iconst 1) := by decide +kernel
theorem F_Law_17 : fetch m_Law 17 = some (.newarray .long) := by decide +kernel
theorem F_Law_19 : fetch m_Law 19 = some (.astore_n 3) := by decide +kernel
theorem F_Law_20 : fetch m_Law 20 = some (.iconst 0) := by decide +kernel
theorem F_Law_21 : fetch m_Law 21 = some (.istore 4) := by decide +kernel
theorem F_Law_23 : fetch m_Law 23 = some (.iload 4) := by decide +kernel
theorem F_Law_25 : fetch m_Law 25 = some (.aload_n 0) := by decide +kernel
theorem F_Law_26 : fetch m_Law 26 = some (.arraylength) := by decide +kernel
theorem F_Law_27 : fetch m_Law 27 = some (.iconst 5) := by decide +kernel
theorem F_Law_28 : fetch m_Law 28 = some (.isub) := by decide +kernel
theorem F_Law_29 : fetch m_Law 29 = some (.if_icmp .gt 1436) := by decide +kernel
theorem F_Law_32 : fetch m_Law 32 = some (.aload_n 0) := by decide +kernel
theorem F_Law_33 : fetch m_Law 33 = some (.iload 4) := by decide +kernel
theorem F_Law_35 : fetch m_Law 35 = some (.iaload) := by decide +kernel
theorem F_Law_36 : fetch m_Law 36 = some (.bipush 31) := by decide +kernel
theorem F_Law_38 : fetch m_Law 38 = some (.iand) := by decide +kernel
theorem F_Law_39 : fetch m_Law 39 = some (.tableswitch 1420 0 25 #[117, 165, 213, 237, 301, 337, 385, 433, 477, 565, 637, 725, 797, 857, 913, 924, 937, 973, 986, 1030, 1086, 1142, 1198, 1223, 1290, 1357]) := by decide +kernel
theorem F_Law_156 : fetch m_Law 156 = some (.aload_n 1) := by decide +kernel
theorem F_Law_157 : fetch m_Law 157 = some (.aload_n 0) := by decide +kernel
theorem F_Law_158 : fetch m_Law 158 = some (.iload 4) := by decide +kernel
theorem F_Law_160 : fetch m_Law 160 = some (.iconst 1) := by decide +kernel
theorem F_Law_161 : fetch m_Law 161 = some (.iadd) := by decide +kernel
theorem F_Law_162 : fetch m_Law 162 = some (.iaload) := by decide +kernel
theorem F_Law_163 : fetch m_Law 163 = some (.aload_n 0) := by decide +kernel
theorem F_Law_164 : fetch m_Law 164 = some (.iload 4) := by decide +kernel
theorem F_Law_166 : fetch m_Law 166 = some (.iconst 2) := by decide +kernel
theorem F_Law_167 : fetch m_Law 167 = some (.iadd) := by decide +kernel
theorem F_Law_168 : fetch m_Law 168 = some (.iaload) := by decide +kernel
theorem F_Law_169 : fetch m_Law 169 = some (.invokestatic 95) := by decide +kernel
theorem F_Law_172 : fetch m_Law 172 = some (.istore 5) := by decide +kernel
theorem F_Law_174 : fetch m_Law 174 = some (.aload_n 2) := by decide +kernel
theorem F_Law_175 : fetch m_Law 175 = some (.aload_n 0) := by decide +kernel
theorem F_Law_176 : fetch m_Law 176 = some (.iload 4) := by decide +kernel
theorem F_Law_178 : fetch m_Law 178 = some (.iconst 1) := by decide +kernel
theorem F_Law_179 : fetch m_Law 179 = some (.iadd) := by decide +kernel
theorem F_Law_180 : fetch m_Law 180 = some (.iaload) := by decide +kernel
theorem F_Law_181 : fetch m_Law 181 = some (.aload_n 0) := by decide +kernel
theorem F_Law_182 : fetch m_Law 182 = some (.iload 4) := by decide +kernel
theorem F_Law_184 : fetch m_Law 184 = some (.iconst 2) := by decide +kernel
theorem F_Law_185 : fetch m_Law 185 = some (.iadd) := by decide +kernel
theorem F_Law_186 : fetch m_Law 186 = some (.iaload) := by decide +kernel
theorem F_Law_187 : fetch m_Law 187 = some (.invokevirtual 100) := by decide +kernel
theorem F_Law_190 : fetch m_Law 190 = some (.aload_n 2) := by decide +kernel
theorem F_Law_191 : fetch m_Law 191 = some (.invokevirtual 101) := by decide +kernel
theorem F_Law_194 : fetch m_Law 194 = some (.iload 5) := by decide +kernel
theorem F_Law_196 : fetch m_Law 196 = some (.if_icmp .eq 5) := by decide +kernel
theorem F_Law_199 : fetch m_Law 199 = some (.iconst 0) := by decide +kernel
theorem F_Law_200 : fetch m_Law 200 = some (.ireturn) := by decide +kernel
theorem F_Law_201 : fetch m_Law 201 = some (.goto 1258) := by decide +kernel
theorem F_Law_204 : fetch m_Law 204 = some (.aload_n 1) := by decide +kernel
theorem F_Law_205 : fetch m_Law 205 = some (.aload_n 0) := by decide +kernel
theorem F_Law_206 : fetch m_Law 206 = some (.iload 4) := by decide +kernel
theorem F_Law_208 : fetch m_Law 208 = some (.iconst 1) := by decide +kernel
theorem F_Law_209 : fetch m_Law 209 = some (.iadd) := by decide +kernel
theorem F_Law_210 : fetch m_Law 210 = some (.iaload) := by decide +kernel
theorem F_Law_211 : fetch m_Law 211 = some (.aload_n 0) := by decide +kernel
theorem F_Law_212 : fetch m_Law 212 = some (.iload 4) := by decide +kernel
theorem F_Law_214 : fetch m_Law 214 = some (.iconst 2) := by decide +kernel
theorem F_Law_215 : fetch m_Law 215 = some (.iadd) := by decide +kernel
theorem F_Law_216 : fetch m_Law 216 = some (.iaload) := by decide +kernel
theorem F_Law_217 : fetch m_Law 217 = some (.invokestatic 104) := by decide +kernel
theorem F_Law_220 : fetch m_Law 220 = some (.istore 5) := by decide +kernel
theorem F_Law_222 : fetch m_Law 222 = some (.aload_n 2) := by decide +kernel
theorem F_Law_223 : fetch m_Law 223 = some (.aload_n 0) := by decide +kernel
theorem F_Law_224 : fetch m_Law 224 = some (.iload 4) := by decide +kernel
theorem F_Law_226 : fetch m_Law 226 = some (.iconst 1) := by decide +kernel
theorem F_Law_227 : fetch m_Law 227 = some (.iadd) := by decide +kernel
theorem F_Law_228 : fetch m_Law 228 = some (.iaload) := by decide +kernel
theorem F_Law_229 : fetch m_Law 229 = some (.aload_n 0) := by decide +kernel
theorem F_Law_230 : fetch m_Law 230 = some (.iload 4) := by decide +kernel
theorem F_Law_232 : fetch m_Law 232 = some (.iconst 2) := by decide +kernel
theorem F_Law_233 : fetch m_Law 233 = some (.iadd) := by decide +kernel
theorem F_Law_234 : fetch m_Law 234 = some (.iaload) := by decide +kernel
theorem F_Law_235 : fetch m_Law 235 = some (.invokevirtual 106) := by decide +kernel
theorem F_Law_238 : fetch m_Law 238 = some (.aload_n 2) := by decide +kernel
theorem F_Law_239 : fetch m_Law 239 = some (.invokevirtual 101) := by decide +kernel
theorem F_Law_242 : fetch m_Law 242 = some (.iload 5) := by decide +kernel
theorem F_Law_244 : fetch m_Law 244 = some (.if_icmp .eq 5) := by decide +kernel
theorem F_Law_247 : fetch m_Law 247 = some (.iconst 0) := by decide +kernel
theorem F_Law_248 : fetch m_Law 248 = some (.ireturn) := by decide +kernel
theorem F_Law_249 : fetch m_Law 249 = some (.goto 1210) := by decide +kernel
theorem F_Law_252 : fetch m_Law 252 = some (.aload_n 1) := by decide +kernel
theorem F_Law_253 : fetch m_Law 253 = some (.invokestatic 107) := by decide +kernel
theorem F_Law_256 : fetch m_Law 256 = some (.istore 5) := by decide +kernel
theorem F_Law_258 : fetch m_Law 258 = some (.aload_n 2) := by decide +kernel
theorem F_Law_259 : fetch m_Law 259 = some (.invokevirtual 110) := by decide +kernel
theorem F_Law_262 : fetch m_Law 262 = some (.aload_n 2) := by decide +kernel
theorem F_Law_263 : fetch m_Law 263 = some (.invokevirtual 101) := by decide +kernel
theorem F_Law_266 : fetch m_Law 266 = some (.iload 5) := by decide +kernel
theorem F_Law_268 : fetch m_Law 268 = some (.if_icmp .eq 5) := by decide +kernel
theorem F_Law_271 : fetch m_Law 271 = some (.iconst 0) := by decide +kernel
theorem F_Law_272 : fetch m_Law 272 = some (.ireturn) := by decide +kernel
theorem F_Law_273 : fetch m_Law 273 = some (.goto 1186) := by decide +kernel
theorem F_Law_276 : fetch m_Law 276 = some (.aload_n 1) := by decide +kernel
theorem F_Law_277 : fetch m_Law 277 = some (.aload_n 0) := by decide +kernel
theorem F_Law_278 : fetch m_Law 278 = some (.iload 4) := by decide +kernel
theorem F_Law_280 : fetch m_Law 280 = some (.iconst 1) := by decide +kernel
theorem F_Law_281 : fetch m_Law 281 = some (.iadd) := by decide +kernel
theorem F_Law_282 : fetch m_Law 282 = some (.iaload) := by decide +kernel
theorem F_Law_283 : fetch m_Law 283 = some (.aload_n 0) := by decide +kernel
theorem F_Law_284 : fetch m_Law 284 = some (.iload 4) := by decide +kernel
theorem F_Law_286 : fetch m_Law 286 = some (.iconst 2) := by decide +kernel
theorem F_Law_287 : fetch m_Law 287 = some (.iadd) := by decide +kernel
theorem F_Law_288 : fetch m_Law 288 = some (.iaload) := by decide +kernel
theorem F_Law_289 : fetch m_Law 289 = some (.ifCond .eq 7) := by decide +kernel
theorem F_Law_292 : fetch m_Law 292 = some (.iconst 1) := by decide +kernel
theorem F_Law_293 : fetch m_Law 293 = some (.goto 4) := by decide +kernel
theorem F_Law_296 : fetch m_Law 296 = some (.iconst 0) := by decide +kernel
theorem F_Law_297 : fetch m_Law 297 = some (.invokestatic 111) := by decide +kernel
theorem F_Law_300 : fetch m_Law 300 = some (.istore 5) := by decide +kernel
theorem F_Law_302 : fetch m_Law 302 = some (.aload_n 2) := by decide +kernel
theorem F_Law_303 : fetch m_Law 303 = some (.aload_n 0) := by decide +kernel
theorem F_Law_304 : fetch m_Law 304 = some (.iload 4) := by decide +kernel
theorem F_Law_306 : fetch m_Law 306 = some (.iconst 1) := by decide +kernel
theorem F_Law_307 : fetch m_Law 307 = some (.iadd) := by decide +kernel
theorem F_Law_308 : fetch m_Law 308 = some (.iaload) := by decide +kernel
theorem F_Law_309 : fetch m_Law 309 = some (.aload_n 0) := by decide +kernel
theorem F_Law_310 : fetch m_Law 310 = some (.iload 4) := by decide +kernel
theorem F_Law_312 : fetch m_Law 312 = some (.iconst 2) := by decide +kernel
theorem F_Law_313 : fetch m_Law 313 = some (.iadd) := by decide +kernel
theorem F_Law_314 : fetch m_Law 314 = some (.iaload) := by decide +kernel
theorem F_Law_315 : fetch m_Law 315 = some (.ifCond .eq 7) := by decide +kernel
theorem F_Law_318 : fetch m_Law 318 = some (.iconst 1) := by decide +kernel
theorem F_Law_319 : fetch m_Law 319 = some (.goto 4) := by decide +kernel
theorem F_Law_322 : fetch m_Law 322 = some (.iconst 0) := by decide +kernel
theorem F_Law_323 : fetch m_Law 323 = some (.invokevirtual 114) := by decide +kernel
theorem F_Law_326 : fetch m_Law 326 = some (.aload_n 2) := by decide +kernel
theorem F_Law_327 : fetch m_Law 327 = some (.invokevirtual 101) := by decide +kernel
theorem F_Law_330 : fetch m_Law 330 = some (.iload 5) := by decide +kernel
theorem F_Law_332 : fetch m_Law 332 = some (.if_icmp .eq 5) := by decide +kernel
theorem F_Law_335 : fetch m_Law 335 = some (.iconst 0) := by decide +kernel
theorem F_Law_336 : fetch m_Law 336 = some (.ireturn) := by decide +kernel
theorem F_Law_337 : fetch m_Law 337 = some (.goto 1122) := by decide +kernel
theorem F_Law_340 : fetch m_Law 340 = some (.aload_n 1) := by decide +kernel
theorem F_Law_341 : fetch m_Law 341 = some (.aload_n 0) := by decide +kernel
theorem F_Law_342 : fetch m_Law 342 = some (.iload 4) := by decide +kernel
theorem F_Law_344 : fetch m_Law 344 = some (.iconst 1) := by decide +kernel
theorem F_Law_345 : fetch m_Law 345 = some (.iadd) := by decide +kernel
theorem F_Law_346 : fetch m_Law 346 = some (.iaload) := by decide +kernel
theorem F_Law_347 : fetch m_Law 347 = some (.invokestatic 115) := by decide +kernel
theorem F_Law_350 : fetch m_Law 350 = some (.istore 5) := by decide +kernel
theorem F_Law_352 : fetch m_Law 352 = some (.aload_n 2) := by decide +kernel
theorem F_Law_353 : fetch m_Law 353 = some (.aload_n 0) := by decide +kernel
theorem F_Law_354 : fetch m_Law 354 = some (.iload 4) := by decide +kernel
theorem F_Law_356 : fetch m_Law 356 = some (.iconst 1) := by decide +kernel
theorem F_Law_357 : fetch m_Law 357 = some (.iadd) := by decide +kernel
theorem F_Law_358 : fetch m_Law 358 = some (.iaload) := by decide +kernel
theorem F_Law_359 : fetch m_Law 359 = some (.invokevirtual 118) := by decide +kernel
theorem F_Law_362 : fetch m_Law 362 = some (.aload_n 2) := by decide +kernel
theorem F_Law_363 : fetch m_Law 363 = some (.invokevirtual 101) := by decide +kernel
theorem F_Law_366 : fetch m_Law 366 = some (.iload 5) := by decide +kernel
theorem F_Law_368 : fetch m_Law 368 = some (.if_icmp .eq 5) := by decide +kernel
theorem F_Law_371 : fetch m_Law 371 = some (.iconst 0) := by decide +kernel
theorem F_Law_372 : fetch m_Law 372 = some (.ireturn) := by decide +kernel
theorem F_Law_373 : fetch m_Law 373 = some (.goto 1086) := by decide +kernel
theorem F_Law_376 : fetch m_Law 376 = some (.aload_n 1) := by decide +kernel
theorem F_Law_377 : fetch m_Law 377 = some (.aload_n 0) := by decide +kernel
theorem F_Law_378 : fetch m_Law 378 = some (.iload 4) := by decide +kernel
theorem F_Law_380 : fetch m_Law 380 = some (.iconst 1) := by decide +kernel
theorem F_Law_381 : fetch m_Law 381 = some (.iadd) := by decide +kernel
theorem F_Law_382 : fetch m_Law 382 = some (.iaload) := by decide +kernel
theorem F_Law_383 : fetch m_Law 383 = some (.aload_n 0) := by decide +kernel
theorem F_Law_384 : fetch m_Law 384 = some (.iload 4) := by decide +kernel
theorem F_Law_386 : fetch m_Law 386 = some (.iconst 2) := by decide +kernel
theorem F_Law_387 : fetch m_Law 387 = some (.iadd) := by decide +kernel
theorem F_Law_388 : fetch m_Law 388 = some (.iaload) := by decide +kernel
theorem F_Law_389 : fetch m_Law 389 = some (.invokestatic 119) := by decide +kernel
theorem F_Law_392 : fetch m_Law 392 = some (.istore 5) := by decide +kernel
theorem F_Law_394 : fetch m_Law 394 = some (.aload_n 2) := by decide +kernel
theorem F_Law_395 : fetch m_Law 395 = some (.aload_n 0) := by decide +kernel
theorem F_Law_396 : fetch m_Law 396 = some (.iload 4) := by decide +kernel
theorem F_Law_398 : fetch m_Law 398 = some (.iconst 1) := by decide +kernel
theorem F_Law_399 : fetch m_Law 399 = some (.iadd) := by decide +kernel
theorem F_Law_400 : fetch m_Law 400 = some (.iaload) := by decide +kernel
theorem F_Law_401 : fetch m_Law 401 = some (.aload_n 0) := by decide +kernel
theorem F_Law_402 : fetch m_Law 402 = some (.iload 4) := by decide +kernel
theorem F_Law_404 : fetch m_Law 404 = some (.iconst 2) := by decide +kernel
theorem F_Law_405 : fetch m_Law 405 = some (.iadd) := by decide +kernel
theorem F_Law_406 : fetch m_Law 406 = some (.iaload) := by decide +kernel
theorem F_Law_407 : fetch m_Law 407 = some (.invokevirtual 121) := by decide +kernel
theorem F_Law_410 : fetch m_Law 410 = some (.aload_n 2) := by decide +kernel
theorem F_Law_411 : fetch m_Law 411 = some (.invokevirtual 101) := by decide +kernel
theorem F_Law_414 : fetch m_Law 414 = some (.iload 5) := by decide +kernel
theorem F_Law_416 : fetch m_Law 416 = some (.if_icmp .eq 5) := by decide +kernel
theorem F_Law_419 : fetch m_Law 419 = some (.iconst 0) := by decide +kernel
theorem F_Law_420 : fetch m_Law 420 = some (.ireturn) := by decide +kernel
theorem F_Law_421 : fetch m_Law 421 = some (.goto 1038) := by decide +kernel
theorem F_Law_424 : fetch m_Law 424 = some (.aload_n 1) := by decide +kernel
theorem F_Law_425 : fetch m_Law 425 = some (.aload_n 0) := by decide +kernel
theorem F_Law_426 : fetch m_Law 426 = some (.iload 4) := by decide +kernel
theorem F_Law_428 : fetch m_Law 428 = some (.iconst 1) := by decide +kernel
theorem F_Law_429 : fetch m_Law 429 = some (.iadd) := by decide +kernel
theorem F_Law_430 : fetch m_Law 430 = some (.iaload) := by decide +kernel
theorem F_Law_431 : fetch m_Law 431 = some (.aload_n 0) := by decide +kernel
theorem F_Law_432 : fetch m_Law 432 = some (.iload 4) := by decide +kernel
theorem F_Law_434 : fetch m_Law 434 = some (.iconst 2) := by decide +kernel
theorem F_Law_435 : fetch m_Law 435 = some (.iadd) := by decide +kernel
theorem F_Law_436 : fetch m_Law 436 = some (.iaload) := by decide +kernel
theorem F_Law_437 : fetch m_Law 437 = some (.invokestatic 122) := by decide +kernel
theorem F_Law_440 : fetch m_Law 440 = some (.istore 5) := by decide +kernel
theorem F_Law_442 : fetch m_Law 442 = some (.aload_n 2) := by decide +kernel
theorem F_Law_443 : fetch m_Law 443 = some (.aload_n 0) := by decide +kernel
theorem F_Law_444 : fetch m_Law 444 = some (.iload 4) := by decide +kernel
theorem F_Law_446 : fetch m_Law 446 = some (.iconst 1) := by decide +kernel
theorem F_Law_447 : fetch m_Law 447 = some (.iadd) := by decide +kernel
theorem F_Law_448 : fetch m_Law 448 = some (.iaload) := by decide +kernel
theorem F_Law_449 : fetch m_Law 449 = some (.aload_n 0) := by decide +kernel
theorem F_Law_450 : fetch m_Law 450 = some (.iload 4) := by decide +kernel
theorem F_Law_452 : fetch m_Law 452 = some (.iconst 2) := by decide +kernel
theorem F_Law_453 : fetch m_Law 453 = some (.iadd) := by decide +kernel
theorem F_Law_454 : fetch m_Law 454 = some (.iaload) := by decide +kernel
theorem F_Law_455 : fetch m_Law 455 = some (.invokevirtual 124) := by decide +kernel
theorem F_Law_458 : fetch m_Law 458 = some (.aload_n 2) := by decide +kernel
theorem F_Law_459 : fetch m_Law 459 = some (.invokevirtual 101) := by decide +kernel
theorem F_Law_462 : fetch m_Law 462 = some (.iload 5) := by decide +kernel
theorem F_Law_464 : fetch m_Law 464 = some (.if_icmp .eq 5) := by decide +kernel
theorem F_Law_467 : fetch m_Law 467 = some (.iconst 0) := by decide +kernel
theorem F_Law_468 : fetch m_Law 468 = some (.ireturn) := by decide +kernel
theorem F_Law_469 : fetch m_Law 469 = some (.goto 990) := by decide +kernel
theorem F_Law_472 : fetch m_Law 472 = some (.aload_n 1) := by decide +kernel
theorem F_Law_473 : fetch m_Law 473 = some (.aload_n 3) := by decide +kernel
theorem F_Law_474 : fetch m_Law 474 = some (.invokestatic 125) := by decide +kernel
theorem F_Law_477 : fetch m_Law 477 = some (.istore 5) := by decide +kernel
theorem F_Law_479 : fetch m_Law 479 = some (.aload_n 2) := by decide +kernel
theorem F_Law_480 : fetch m_Law 480 = some (.invokevirtual 128) := by decide +kernel
theorem F_Law_483 : fetch m_Law 483 = some (.istore 6) := by decide +kernel
theorem F_Law_485 : fetch m_Law 485 = some (.aload_n 2) := by decide +kernel
theorem F_Law_486 : fetch m_Law 486 = some (.invokevirtual 101) := by decide +kernel
theorem F_Law_489 : fetch m_Law 489 = some (.iload 5) := by decide +kernel
theorem F_Law_491 : fetch m_Law 491 = some (.if_icmp .eq 5) := by decide +kernel
theorem F_Law_494 : fetch m_Law 494 = some (.iconst 0) := by decide +kernel
theorem F_Law_495 : fetch m_Law 495 = some (.ireturn) := by decide +kernel
theorem F_Law_496 : fetch m_Law 496 = some (.iload 5) := by decide +kernel
theorem F_Law_498 : fetch m_Law 498 = some (.ifCond .ne 15) := by decide +kernel
theorem F_Law_501 : fetch m_Law 501 = some (.aload_n 3) := by decide +kernel
theorem F_Law_502 : fetch m_Law 502 = some (.iconst 0) := by decide +kernel
theorem F_Law_503 : fetch m_Law 503 = some (.laload) := by decide +kernel
theorem F_Law_504 : fetch m_Law 504 = some (.iload 6) := by decide +kernel
theorem F_Law_506 : fetch m_Law 506 = some (.i2l) := by decide +kernel
theorem F_Law_507 : fetch m_Law 507 = some (.lcmp) := by decide +kernel
theorem F_Law_508 : fetch m_Law 508 = some (.ifCond .eq 5) := by decide +kernel
theorem F_Law_511 : fetch m_Law 511 = some (.iconst 0) := by decide +kernel
theorem F_Law_512 : fetch m_Law 512 = some (.ireturn) := by decide +kernel
theorem F_Law_513 : fetch m_Law 513 = some (.goto 946) := by decide +kernel
theorem F_Law_516 : fetch m_Law 516 = some (.aload_n 1) := by decide +kernel
theorem F_Law_517 : fetch m_Law 517 = some (.aload_n 0) := by decide +kernel
theorem F_Law_518 : fetch m_Law 518 = some (.iload 4) := by decide +kernel
theorem F_Law_520 : fetch m_Law 520 = some (.iconst 1) := by decide +kernel
theorem F_Law_521 : fetch m_Law 521 = some (.iadd) := by decide +kernel
theorem F_Law_522 : fetch m_Law 522 = some (.iaload) := by decide +kernel
theorem F_Law_523 : fetch m_Law 523 = some (.aload_n 0) := by decide +kernel
theorem F_Law_524 : fetch m_Law 524 = some (.iload 4) := by decide +kernel
theorem F_Law_526 : fetch m_Law 526 = some (.iconst 2) := by decide +kernel
theorem F_Law_527 : fetch m_Law 527 = some (.iadd) := by decide +kernel
theorem F_Law_528 : fetch m_Law 528 = some (.iaload) := by decide +kernel
theorem F_Law_529 : fetch m_Law 529 = some (.aload_n 0) := by decide +kernel
theorem F_Law_530 : fetch m_Law 530 = some (.iload 4) := by decide +kernel
theorem F_Law_532 : fetch m_Law 532 = some (.iconst 3) := by decide +kernel
theorem F_Law_533 : fetch m_Law 533 = some (.iadd) := by decide +kernel
theorem F_Law_534 : fetch m_Law 534 = some (.iaload) := by decide +kernel
theorem F_Law_535 : fetch m_Law 535 = some (.aload_n 0) := by decide +kernel
theorem F_Law_536 : fetch m_Law 536 = some (.iload 4) := by decide +kernel
theorem F_Law_538 : fetch m_Law 538 = some (.iconst 4) := by decide +kernel
theorem F_Law_539 : fetch m_Law 539 = some (.iadd) := by decide +kernel
theorem F_Law_540 : fetch m_Law 540 = some (.iaload) := by decide +kernel
theorem F_Law_541 : fetch m_Law 541 = some (.ifCond .eq 7) := by decide +kernel
theorem F_Law_544 : fetch m_Law 544 = some (.iconst 1) := by decide +kernel
theorem F_Law_545 : fetch m_Law 545 = some (.goto 4) := by decide +kernel
theorem F_Law_548 : fetch m_Law 548 = some (.iconst 0) := by decide +kernel
theorem F_Law_549 : fetch m_Law 549 = some (.invokestatic 129) := by decide +kernel
theorem F_Law_552 : fetch m_Law 552 = some (.istore 5) := by decide +kernel
theorem F_Law_554 : fetch m_Law 554 = some (.aload_n 2) := by decide +kernel
theorem F_Law_555 : fetch m_Law 555 = some (.aload_n 0) := by decide +kernel
theorem F_Law_556 : fetch m_Law 556 = some (.iload 4) := by decide +kernel
theorem F_Law_558 : fetch m_Law 558 = some (.iconst 1) := by decide +kernel
theorem F_Law_559 : fetch m_Law 559 = some (.iadd) := by decide +kernel
theorem F_Law_560 : fetch m_Law 560 = some (.iaload) := by decide +kernel
theorem F_Law_561 : fetch m_Law 561 = some (.aload_n 0) := by decide +kernel
theorem F_Law_562 : fetch m_Law 562 = some (.iload 4) := by decide +kernel
theorem F_Law_564 : fetch m_Law 564 = some (.iconst 2) := by decide +kernel
theorem F_Law_565 : fetch m_Law 565 = some (.iadd) := by decide +kernel
theorem F_Law_566 : fetch m_Law 566 = some (.iaload) := by decide +kernel
theorem F_Law_567 : fetch m_Law 567 = some (.aload_n 0) := by decide +kernel
theorem F_Law_568 : fetch m_Law 568 = some (.iload 4) := by decide +kernel
theorem F_Law_570 : fetch m_Law 570 = some (.iconst 3) := by decide +kernel
theorem F_Law_571 : fetch m_Law 571 = some (.iadd) := by decide +kernel
theorem F_Law_572 : fetch m_Law 572 = some (.iaload) := by decide +kernel
theorem F_Law_573 : fetch m_Law 573 = some (.aload_n 0) := by decide +kernel
theorem F_Law_574 : fetch m_Law 574 = some (.iload 4) := by decide +kernel
theorem F_Law_576 : fetch m_Law 576 = some (.iconst 4) := by decide +kernel
theorem F_Law_577 : fetch m_Law 577 = some (.iadd) := by decide +kernel
theorem F_Law_578 : fetch m_Law 578 = some (.iaload) := by decide +kernel
theorem F_Law_579 : fetch m_Law 579 = some (.ifCond .eq 7) := by decide +kernel
theorem F_Law_582 : fetch m_Law 582 = some (.iconst 1) := by decide +kernel
theorem F_Law_583 : fetch m_Law 583 = some (.goto 4) := by decide +kernel
theorem F_Law_586 : fetch m_Law 586 = some (.iconst 0) := by decide +kernel
theorem F_Law_587 : fetch m_Law 587 = some (.invokevirtual 132) := by decide +kernel
theorem F_Law_590 : fetch m_Law 590 = some (.aload_n 2) := by decide +kernel
theorem F_Law_591 : fetch m_Law 591 = some (.invokevirtual 101) := by decide +kernel
theorem F_Law_594 : fetch m_Law 594 = some (.iload 5) := by decide +kernel
theorem F_Law_596 : fetch m_Law 596 = some (.if_icmp .eq 5) := by decide +kernel
theorem F_Law_599 : fetch m_Law 599 = some (.iconst 0) := by decide +kernel
theorem F_Law_600 : fetch m_Law 600 = some (.ireturn) := by decide +kernel
theorem F_Law_601 : fetch m_Law 601 = some (.goto 858) := by decide +kernel
theorem F_Law_604 : fetch m_Law 604 = some (.aload_n 1) := by decide +kernel
theorem F_Law_605 : fetch m_Law 605 = some (.aload_n 0) := by decide +kernel
theorem F_Law_606 : fetch m_Law 606 = some (.iload 4) := by decide +kernel
theorem F_Law_608 : fetch m_Law 608 = some (.iconst 1) := by decide +kernel
theorem F_Law_609 : fetch m_Law 609 = some (.iadd) := by decide +kernel
theorem F_Law_610 : fetch m_Law 610 = some (.iaload) := by decide +kernel
theorem F_Law_611 : fetch m_Law 611 = some (.aload_n 0) := by decide +kernel
theorem F_Law_612 : fetch m_Law 612 = some (.iload 4) := by decide +kernel
theorem F_Law_614 : fetch m_Law 614 = some (.iconst 2) := by decide +kernel
theorem F_Law_615 : fetch m_Law 615 = some (.iadd) := by decide +kernel
theorem F_Law_616 : fetch m_Law 616 = some (.iaload) := by decide +kernel
theorem F_Law_617 : fetch m_Law 617 = some (.aload_n 0) := by decide +kernel
theorem F_Law_618 : fetch m_Law 618 = some (.iload 4) := by decide +kernel
theorem F_Law_620 : fetch m_Law 620 = some (.iconst 3) := by decide +kernel
theorem F_Law_621 : fetch m_Law 621 = some (.iadd) := by decide +kernel
theorem F_Law_622 : fetch m_Law 622 = some (.iaload) := by decide +kernel
theorem F_Law_623 : fetch m_Law 623 = some (.aload_n 0) := by decide +kernel
theorem F_Law_624 : fetch m_Law 624 = some (.iload 4) := by decide +kernel
theorem F_Law_626 : fetch m_Law 626 = some (.iconst 4) := by decide +kernel
theorem F_Law_627 : fetch m_Law 627 = some (.iadd) := by decide +kernel
theorem F_Law_628 : fetch m_Law 628 = some (.iaload) := by decide +kernel
theorem F_Law_629 : fetch m_Law 629 = some (.invokestatic 133) := by decide +kernel
theorem F_Law_632 : fetch m_Law 632 = some (.istore 5) := by decide +kernel
theorem F_Law_634 : fetch m_Law 634 = some (.aload_n 2) := by decide +kernel
theorem F_Law_635 : fetch m_Law 635 = some (.aload_n 0) := by decide +kernel
theorem F_Law_636 : fetch m_Law 636 = some (.iload 4) := by decide +kernel
theorem F_Law_638 : fetch m_Law 638 = some (.iconst 1) := by decide +kernel
theorem F_Law_639 : fetch m_Law 639 = some (.iadd) := by decide +kernel
theorem F_Law_640 : fetch m_Law 640 = some (.iaload) := by decide +kernel
theorem F_Law_641 : fetch m_Law 641 = some (.aload_n 0) := by decide +kernel
theorem F_Law_642 : fetch m_Law 642 = some (.iload 4) := by decide +kernel
theorem F_Law_644 : fetch m_Law 644 = some (.iconst 2) := by decide +kernel
theorem F_Law_645 : fetch m_Law 645 = some (.iadd) := by decide +kernel
theorem F_Law_646 : fetch m_Law 646 = some (.iaload) := by decide +kernel
theorem F_Law_647 : fetch m_Law 647 = some (.aload_n 0) := by decide +kernel
theorem F_Law_648 : fetch m_Law 648 = some (.iload 4) := by decide +kernel
theorem F_Law_650 : fetch m_Law 650 = some (.iconst 3) := by decide +kernel
theorem F_Law_651 : fetch m_Law 651 = some (.iadd) := by decide +kernel
theorem F_Law_652 : fetch m_Law 652 = some (.iaload) := by decide +kernel
theorem F_Law_653 : fetch m_Law 653 = some (.aload_n 0) := by decide +kernel
theorem F_Law_654 : fetch m_Law 654 = some (.iload 4) := by decide +kernel
theorem F_Law_656 : fetch m_Law 656 = some (.iconst 4) := by decide +kernel
theorem F_Law_657 : fetch m_Law 657 = some (.iadd) := by decide +kernel
theorem F_Law_658 : fetch m_Law 658 = some (.iaload) := by decide +kernel
theorem F_Law_659 : fetch m_Law 659 = some (.invokevirtual 136) := by decide +kernel
theorem F_Law_662 : fetch m_Law 662 = some (.aload_n 2) := by decide +kernel
theorem F_Law_663 : fetch m_Law 663 = some (.invokevirtual 101) := by decide +kernel
theorem F_Law_666 : fetch m_Law 666 = some (.iload 5) := by decide +kernel
theorem F_Law_668 : fetch m_Law 668 = some (.if_icmp .eq 5) := by decide +kernel
theorem F_Law_671 : fetch m_Law 671 = some (.iconst 0) := by decide +kernel
theorem F_Law_672 : fetch m_Law 672 = some (.ireturn) := by decide +kernel
theorem F_Law_673 : fetch m_Law 673 = some (.goto 786) := by decide +kernel
theorem F_Law_676 : fetch m_Law 676 = some (.aload_n 1) := by decide +kernel
theorem F_Law_677 : fetch m_Law 677 = some (.aload_n 0) := by decide +kernel
theorem F_Law_678 : fetch m_Law 678 = some (.iload 4) := by decide +kernel
theorem F_Law_680 : fetch m_Law 680 = some (.iconst 1) := by decide +kernel
theorem F_Law_681 : fetch m_Law 681 = some (.iadd) := by decide +kernel
theorem F_Law_682 : fetch m_Law 682 = some (.iaload) := by decide +kernel
theorem F_Law_683 : fetch m_Law 683 = some (.aload_n 0) := by decide +kernel
theorem F_Law_684 : fetch m_Law 684 = some (.iload 4) := by decide +kernel
theorem F_Law_686 : fetch m_Law 686 = some (.iconst 2) := by decide +kernel
theorem F_Law_687 : fetch m_Law 687 = some (.iadd) := by decide +kernel
theorem F_Law_688 : fetch m_Law 688 = some (.iaload) := by decide +kernel
theorem F_Law_689 : fetch m_Law 689 = some (.aload_n 0) := by decide +kernel
theorem F_Law_690 : fetch m_Law 690 = some (.iload 4) := by decide +kernel
theorem F_Law_692 : fetch m_Law 692 = some (.iconst 3) := by decide +kernel
theorem F_Law_693 : fetch m_Law 693 = some (.iadd) := by decide +kernel
theorem F_Law_694 : fetch m_Law 694 = some (.iaload) := by decide +kernel
theorem F_Law_695 : fetch m_Law 695 = some (.aload_n 0) := by decide +kernel
theorem F_Law_696 : fetch m_Law 696 = some (.iload 4) := by decide +kernel
theorem F_Law_698 : fetch m_Law 698 = some (.iconst 4) := by decide +kernel
theorem F_Law_699 : fetch m_Law 699 = some (.iadd) := by decide +kernel
theorem F_Law_700 : fetch m_Law 700 = some (.iaload) := by decide +kernel
theorem F_Law_701 : fetch m_Law 701 = some (.ifCond .eq 7) := by decide +kernel
theorem F_Law_704 : fetch m_Law 704 = some (.iconst 1) := by decide +kernel
theorem F_Law_705 : fetch m_Law 705 = some (.goto 4) := by decide +kernel
theorem F_Law_708 : fetch m_Law 708 = some (.iconst 0) := by decide +kernel
theorem F_Law_709 : fetch m_Law 709 = some (.invokestatic 137) := by decide +kernel
theorem F_Law_712 : fetch m_Law 712 = some (.istore 5) := by decide +kernel
theorem F_Law_714 : fetch m_Law 714 = some (.aload_n 2) := by decide +kernel
theorem F_Law_715 : fetch m_Law 715 = some (.aload_n 0) := by decide +kernel
theorem F_Law_716 : fetch m_Law 716 = some (.iload 4) := by decide +kernel
theorem F_Law_718 : fetch m_Law 718 = some (.iconst 1) := by decide +kernel
theorem F_Law_719 : fetch m_Law 719 = some (.iadd) := by decide +kernel
theorem F_Law_720 : fetch m_Law 720 = some (.iaload) := by decide +kernel
theorem F_Law_721 : fetch m_Law 721 = some (.aload_n 0) := by decide +kernel
theorem F_Law_722 : fetch m_Law 722 = some (.iload 4) := by decide +kernel
theorem F_Law_724 : fetch m_Law 724 = some (.iconst 2) := by decide +kernel
theorem F_Law_725 : fetch m_Law 725 = some (.iadd) := by decide +kernel
theorem F_Law_726 : fetch m_Law 726 = some (.iaload) := by decide +kernel
theorem F_Law_727 : fetch m_Law 727 = some (.aload_n 0) := by decide +kernel
theorem F_Law_728 : fetch m_Law 728 = some (.iload 4) := by decide +kernel
theorem F_Law_730 : fetch m_Law 730 = some (.iconst 3) := by decide +kernel
theorem F_Law_731 : fetch m_Law 731 = some (.iadd) := by decide +kernel
theorem F_Law_732 : fetch m_Law 732 = some (.iaload) := by decide +kernel
theorem F_Law_733 : fetch m_Law 733 = some (.aload_n 0) := by decide +kernel
theorem F_Law_734 : fetch m_Law 734 = some (.iload 4) := by decide +kernel
theorem F_Law_736 : fetch m_Law 736 = some (.iconst 4) := by decide +kernel
theorem F_Law_737 : fetch m_Law 737 = some (.iadd) := by decide +kernel
theorem F_Law_738 : fetch m_Law 738 = some (.iaload) := by decide +kernel
theorem F_Law_739 : fetch m_Law 739 = some (.ifCond .eq 7) := by decide +kernel
theorem F_Law_742 : fetch m_Law 742 = some (.iconst 1) := by decide +kernel
theorem F_Law_743 : fetch m_Law 743 = some (.goto 4) := by decide +kernel
theorem F_Law_746 : fetch m_Law 746 = some (.iconst 0) := by decide +kernel
theorem F_Law_747 : fetch m_Law 747 = some (.invokevirtual 139) := by decide +kernel
theorem F_Law_750 : fetch m_Law 750 = some (.aload_n 2) := by decide +kernel
theorem F_Law_751 : fetch m_Law 751 = some (.invokevirtual 101) := by decide +kernel
theorem F_Law_754 : fetch m_Law 754 = some (.iload 5) := by decide +kernel
theorem F_Law_756 : fetch m_Law 756 = some (.if_icmp .eq 5) := by decide +kernel
theorem F_Law_759 : fetch m_Law 759 = some (.iconst 0) := by decide +kernel
theorem F_Law_760 : fetch m_Law 760 = some (.ireturn) := by decide +kernel
theorem F_Law_761 : fetch m_Law 761 = some (.goto 698) := by decide +kernel
theorem F_Law_764 : fetch m_Law 764 = some (.aload_n 1) := by decide +kernel
theorem F_Law_765 : fetch m_Law 765 = some (.aload_n 0) := by decide +kernel
theorem F_Law_766 : fetch m_Law 766 = some (.iload 4) := by decide +kernel
theorem F_Law_768 : fetch m_Law 768 = some (.iconst 1) := by decide +kernel
theorem F_Law_769 : fetch m_Law 769 = some (.iadd) := by decide +kernel
theorem F_Law_770 : fetch m_Law 770 = some (.iaload) := by decide +kernel
theorem F_Law_771 : fetch m_Law 771 = some (.aload_n 0) := by decide +kernel
theorem F_Law_772 : fetch m_Law 772 = some (.iload 4) := by decide +kernel
theorem F_Law_774 : fetch m_Law 774 = some (.iconst 2) := by decide +kernel
theorem F_Law_775 : fetch m_Law 775 = some (.iadd) := by decide +kernel
theorem F_Law_776 : fetch m_Law 776 = some (.iaload) := by decide +kernel
theorem F_Law_777 : fetch m_Law 777 = some (.aload_n 0) := by decide +kernel
theorem F_Law_778 : fetch m_Law 778 = some (.iload 4) := by decide +kernel
theorem F_Law_780 : fetch m_Law 780 = some (.iconst 3) := by decide +kernel
theorem F_Law_781 : fetch m_Law 781 = some (.iadd) := by decide +kernel
theorem F_Law_782 : fetch m_Law 782 = some (.iaload) := by decide +kernel
theorem F_Law_783 : fetch m_Law 783 = some (.aload_n 0) := by decide +kernel
theorem F_Law_784 : fetch m_Law 784 = some (.iload 4) := by decide +kernel
theorem F_Law_786 : fetch m_Law 786 = some (.iconst 4) := by decide +kernel
theorem F_Law_787 : fetch m_Law 787 = some (.iadd) := by decide +kernel
theorem F_Law_788 : fetch m_Law 788 = some (.iaload) := by decide +kernel
theorem F_Law_789 : fetch m_Law 789 = some (.invokestatic 140) := by decide +kernel
theorem F_Law_792 : fetch m_Law 792 = some (.istore 5) := by decide +kernel
theorem F_Law_794 : fetch m_Law 794 = some (.aload_n 2) := by decide +kernel
theorem F_Law_795 : fetch m_Law 795 = some (.aload_n 0) := by decide +kernel
theorem F_Law_796 : fetch m_Law 796 = some (.iload 4) := by decide +kernel
theorem F_Law_798 : fetch m_Law 798 = some (.iconst 1) := by decide +kernel
theorem F_Law_799 : fetch m_Law 799 = some (.iadd) := by decide +kernel
theorem F_Law_800 : fetch m_Law 800 = some (.iaload) := by decide +kernel
theorem F_Law_801 : fetch m_Law 801 = some (.aload_n 0) := by decide +kernel
theorem F_Law_802 : fetch m_Law 802 = some (.iload 4) := by decide +kernel
theorem F_Law_804 : fetch m_Law 804 = some (.iconst 2) := by decide +kernel
theorem F_Law_805 : fetch m_Law 805 = some (.iadd) := by decide +kernel
theorem F_Law_806 : fetch m_Law 806 = some (.iaload) := by decide +kernel
theorem F_Law_807 : fetch m_Law 807 = some (.aload_n 0) := by decide +kernel
theorem F_Law_808 : fetch m_Law 808 = some (.iload 4) := by decide +kernel
theorem F_Law_810 : fetch m_Law 810 = some (.iconst 3) := by decide +kernel
theorem F_Law_811 : fetch m_Law 811 = some (.iadd) := by decide +kernel
theorem F_Law_812 : fetch m_Law 812 = some (.iaload) := by decide +kernel
theorem F_Law_813 : fetch m_Law 813 = some (.aload_n 0) := by decide +kernel
theorem F_Law_814 : fetch m_Law 814 = some (.iload 4) := by decide +kernel
theorem F_Law_816 : fetch m_Law 816 = some (.iconst 4) := by decide +kernel
theorem F_Law_817 : fetch m_Law 817 = some (.iadd) := by decide +kernel
theorem F_Law_818 : fetch m_Law 818 = some (.iaload) := by decide +kernel
theorem F_Law_819 : fetch m_Law 819 = some (.invokevirtual 142) := by decide +kernel
theorem F_Law_822 : fetch m_Law 822 = some (.aload_n 2) := by decide +kernel
theorem F_Law_823 : fetch m_Law 823 = some (.invokevirtual 101) := by decide +kernel
theorem F_Law_826 : fetch m_Law 826 = some (.iload 5) := by decide +kernel
theorem F_Law_828 : fetch m_Law 828 = some (.if_icmp .eq 5) := by decide +kernel
theorem F_Law_831 : fetch m_Law 831 = some (.iconst 0) := by decide +kernel
theorem F_Law_832 : fetch m_Law 832 = some (.ireturn) := by decide +kernel
theorem F_Law_833 : fetch m_Law 833 = some (.goto 626) := by decide +kernel
theorem F_Law_836 : fetch m_Law 836 = some (.aload_n 1) := by decide +kernel
theorem F_Law_837 : fetch m_Law 837 = some (.aload_n 0) := by decide +kernel
theorem F_Law_838 : fetch m_Law 838 = some (.iload 4) := by decide +kernel
theorem F_Law_840 : fetch m_Law 840 = some (.iconst 1) := by decide +kernel
theorem F_Law_841 : fetch m_Law 841 = some (.iadd) := by decide +kernel
theorem F_Law_842 : fetch m_Law 842 = some (.iaload) := by decide +kernel
theorem F_Law_843 : fetch m_Law 843 = some (.aload_n 0) := by decide +kernel
theorem F_Law_844 : fetch m_Law 844 = some (.iload 4) := by decide +kernel
theorem F_Law_846 : fetch m_Law 846 = some (.iconst 2) := by decide +kernel
theorem F_Law_847 : fetch m_Law 847 = some (.iadd) := by decide +kernel
theorem F_Law_848 : fetch m_Law 848 = some (.iaload) := by decide +kernel
theorem F_Law_849 : fetch m_Law 849 = some (.aload_n 0) := by decide +kernel
theorem F_Law_850 : fetch m_Law 850 = some (.iload 4) := by decide +kernel
theorem F_Law_852 : fetch m_Law 852 = some (.iconst 3) := by decide +kernel
theorem F_Law_853 : fetch m_Law 853 = some (.iadd) := by decide +kernel
theorem F_Law_854 : fetch m_Law 854 = some (.iaload) := by decide +kernel
theorem F_Law_855 : fetch m_Law 855 = some (.invokestatic 143) := by decide +kernel
theorem F_Law_858 : fetch m_Law 858 = some (.istore 5) := by decide +kernel
theorem F_Law_860 : fetch m_Law 860 = some (.aload_n 2) := by decide +kernel
theorem F_Law_861 : fetch m_Law 861 = some (.aload_n 0) := by decide +kernel
theorem F_Law_862 : fetch m_Law 862 = some (.iload 4) := by decide +kernel
theorem F_Law_864 : fetch m_Law 864 = some (.iconst 1) := by decide +kernel
theorem F_Law_865 : fetch m_Law 865 = some (.iadd) := by decide +kernel
theorem F_Law_866 : fetch m_Law 866 = some (.iaload) := by decide +kernel
theorem F_Law_867 : fetch m_Law 867 = some (.aload_n 0) := by decide +kernel
theorem F_Law_868 : fetch m_Law 868 = some (.iload 4) := by decide +kernel
theorem F_Law_870 : fetch m_Law 870 = some (.iconst 2) := by decide +kernel
theorem F_Law_871 : fetch m_Law 871 = some (.iadd) := by decide +kernel
theorem F_Law_872 : fetch m_Law 872 = some (.iaload) := by decide +kernel
theorem F_Law_873 : fetch m_Law 873 = some (.aload_n 0) := by decide +kernel
theorem F_Law_874 : fetch m_Law 874 = some (.iload 4) := by decide +kernel
theorem F_Law_876 : fetch m_Law 876 = some (.iconst 3) := by decide +kernel
theorem F_Law_877 : fetch m_Law 877 = some (.iadd) := by decide +kernel
theorem F_Law_878 : fetch m_Law 878 = some (.iaload) := by decide +kernel
theorem F_Law_879 : fetch m_Law 879 = some (.invokevirtual 146) := by decide +kernel
theorem F_Law_882 : fetch m_Law 882 = some (.aload_n 2) := by decide +kernel
theorem F_Law_883 : fetch m_Law 883 = some (.invokevirtual 101) := by decide +kernel
theorem F_Law_886 : fetch m_Law 886 = some (.iload 5) := by decide +kernel
theorem F_Law_888 : fetch m_Law 888 = some (.if_icmp .eq 5) := by decide +kernel
theorem F_Law_891 : fetch m_Law 891 = some (.iconst 0) := by decide +kernel
theorem F_Law_892 : fetch m_Law 892 = some (.ireturn) := by decide +kernel
theorem F_Law_893 : fetch m_Law 893 = some (.goto 566) := by decide +kernel
theorem F_Law_896 : fetch m_Law 896 = some (.aload_n 1) := by decide +kernel
theorem F_Law_897 : fetch m_Law 897 = some (.aload_n 0) := by decide +kernel
theorem F_Law_898 : fetch m_Law 898 = some (.iload 4) := by decide +kernel
theorem F_Law_900 : fetch m_Law 900 = some (.iconst 1) := by decide +kernel
theorem F_Law_901 : fetch m_Law 901 = some (.iadd) := by decide +kernel
theorem F_Law_902 : fetch m_Law 902 = some (.iaload) := by decide +kernel
theorem F_Law_903 : fetch m_Law 903 = some (.aload_n 3) := by decide +kernel
theorem F_Law_904 : fetch m_Law 904 = some (.invokestatic 147) := by decide +kernel
theorem F_Law_907 : fetch m_Law 907 = some (.istore 5) := by decide +kernel
theorem F_Law_909 : fetch m_Law 909 = some (.aload_n 2) := by decide +kernel
theorem F_Law_910 : fetch m_Law 910 = some (.aload_n 0) := by decide +kernel
theorem F_Law_911 : fetch m_Law 911 = some (.iload 4) := by decide +kernel
theorem F_Law_913 : fetch m_Law 913 = some (.iconst 1) := by decide +kernel
theorem F_Law_914 : fetch m_Law 914 = some (.iadd) := by decide +kernel
theorem F_Law_915 : fetch m_Law 915 = some (.iaload) := by decide +kernel
theorem F_Law_916 : fetch m_Law 916 = some (.invokevirtual 150) := by decide +kernel
theorem F_Law_919 : fetch m_Law 919 = some (.istore 6) := by decide +kernel
theorem F_Law_921 : fetch m_Law 921 = some (.aload_n 2) := by decide +kernel
theorem F_Law_922 : fetch m_Law 922 = some (.invokevirtual 101) := by decide +kernel
theorem F_Law_925 : fetch m_Law 925 = some (.iload 5) := by decide +kernel
theorem F_Law_927 : fetch m_Law 927 = some (.if_icmp .eq 5) := by decide +kernel
theorem F_Law_930 : fetch m_Law 930 = some (.iconst 0) := by decide +kernel
theorem F_Law_931 : fetch m_Law 931 = some (.ireturn) := by decide +kernel
theorem F_Law_932 : fetch m_Law 932 = some (.iload 5) := by decide +kernel
theorem F_Law_934 : fetch m_Law 934 = some (.ifCond .ne 15) := by decide +kernel
theorem F_Law_937 : fetch m_Law 937 = some (.aload_n 3) := by decide +kernel
theorem F_Law_938 : fetch m_Law 938 = some (.iconst 0) := by decide +kernel
theorem F_Law_939 : fetch m_Law 939 = some (.laload) := by decide +kernel
theorem F_Law_940 : fetch m_Law 940 = some (.iload 6) := by decide +kernel
theorem F_Law_942 : fetch m_Law 942 = some (.i2l) := by decide +kernel
theorem F_Law_943 : fetch m_Law 943 = some (.lcmp) := by decide +kernel
theorem F_Law_944 : fetch m_Law 944 = some (.ifCond .eq 5) := by decide +kernel
theorem F_Law_947 : fetch m_Law 947 = some (.iconst 0) := by decide +kernel
theorem F_Law_948 : fetch m_Law 948 = some (.ireturn) := by decide +kernel
theorem F_Law_949 : fetch m_Law 949 = some (.goto 510) := by decide +kernel
theorem F_Law_952 : fetch m_Law 952 = some (.aload_n 1) := by decide +kernel
theorem F_Law_953 : fetch m_Law 953 = some (.invokevirtual 151) := by decide +kernel
theorem F_Law_956 : fetch m_Law 956 = some (.aload_n 2) := by decide +kernel
theorem F_Law_957 : fetch m_Law 957 = some (.invokevirtual 154) := by decide +kernel
theorem F_Law_960 : fetch m_Law 960 = some (.goto 499) := by decide +kernel
theorem F_Law_963 : fetch m_Law 963 = some (.aload_n 1) := by decide +kernel
theorem F_Law_964 : fetch m_Law 964 = some (.invokevirtual 155) := by decide +kernel
theorem F_Law_967 : fetch m_Law 967 = some (.aload_n 2) := by decide +kernel
theorem F_Law_968 : fetch m_Law 968 = some (.invokevirtual 158) := by decide +kernel
theorem F_Law_971 : fetch m_Law 971 = some (.if_icmp .eq 488) := by decide +kernel
theorem F_Law_974 : fetch m_Law 974 = some (.iconst 0) := by decide +kernel
theorem F_Law_975 : fetch m_Law 975 = some (.ireturn) := by decide +kernel
theorem F_Law_976 : fetch m_Law 976 = some (.aload_n 1) := by decide +kernel
theorem F_Law_977 : fetch m_Law 977 = some (.aload_n 0) := by decide +kernel
theorem F_Law_978 : fetch m_Law 978 = some (.iload 4) := by decide +kernel
theorem F_Law_980 : fetch m_Law 980 = some (.iconst 1) := by decide +kernel
theorem F_Law_981 : fetch m_Law 981 = some (.iadd) := by decide +kernel
theorem F_Law_982 : fetch m_Law 982 = some (.iaload) := by decide +kernel
theorem F_Law_983 : fetch m_Law 983 = some (.invokestatic 159) := by decide +kernel
theorem F_Law_986 : fetch m_Law 986 = some (.istore 5) := by decide +kernel
theorem F_Law_988 : fetch m_Law 988 = some (.aload_n 2) := by decide +kernel
theorem F_Law_989 : fetch m_Law 989 = some (.aload_n 0) := by decide +kernel
theorem F_Law_990 : fetch m_Law 990 = some (.iload 4) := by decide +kernel
theorem F_Law_992 : fetch m_Law 992 = some (.iconst 1) := by decide +kernel
theorem F_Law_993 : fetch m_Law 993 = some (.iadd) := by decide +kernel
theorem F_Law_994 : fetch m_Law 994 = some (.iaload) := by decide +kernel
theorem F_Law_995 : fetch m_Law 995 = some (.invokevirtual 161) := by decide +kernel
theorem F_Law_998 : fetch m_Law 998 = some (.aload_n 2) := by decide +kernel
theorem F_Law_999 : fetch m_Law 999 = some (.invokevirtual 101) := by decide +kernel
theorem F_Law_1002 : fetch m_Law 1002 = some (.iload 5) := by decide +kernel
theorem F_Law_1004 : fetch m_Law 1004 = some (.if_icmp .eq 5) := by decide +kernel
theorem F_Law_1007 : fetch m_Law 1007 = some (.iconst 0) := by decide +kernel
theorem F_Law_1008 : fetch m_Law 1008 = some (.ireturn) := by decide +kernel
theorem F_Law_1009 : fetch m_Law 1009 = some (.goto 450) := by decide +kernel
theorem F_Law_1012 : fetch m_Law 1012 = some (.aload_n 1) := by decide +kernel
theorem F_Law_1013 : fetch m_Law 1013 = some (.invokevirtual 162) := by decide +kernel
theorem F_Law_1016 : fetch m_Law 1016 = some (.aload_n 2) := by decide +kernel
theorem F_Law_1017 : fetch m_Law 1017 = some (.invokevirtual 165) := by decide +kernel
theorem F_Law_1020 : fetch m_Law 1020 = some (.if_icmp .eq 439) := by decide +kernel
theorem F_Law_1023 : fetch m_Law 1023 = some (.iconst 0) := by decide +kernel
theorem F_Law_1024 : fetch m_Law 1024 = some (.ireturn) := by decide +kernel
theorem F_Law_1025 : fetch m_Law 1025 = some (.aload_n 1) := by decide +kernel
theorem F_Law_1026 : fetch m_Law 1026 = some (.aload_n 3) := by decide +kernel
theorem F_Law_1027 : fetch m_Law 1027 = some (.invokestatic 166) := by decide +kernel
theorem F_Law_1030 : fetch m_Law 1030 = some (.istore 5) := by decide +kernel
theorem F_Law_1032 : fetch m_Law 1032 = some (.aload_n 2) := by decide +kernel
theorem F_Law_1033 : fetch m_Law 1033 = some (.invokevirtual 168) := by decide +kernel
theorem F_Law_1036 : fetch m_Law 1036 = some (.istore 6) := by decide +kernel
theorem F_Law_1038 : fetch m_Law 1038 = some (.aload_n 2) := by decide +kernel
theorem F_Law_1039 : fetch m_Law 1039 = some (.invokevirtual 101) := by decide +kernel
theorem F_Law_1042 : fetch m_Law 1042 = some (.iload 5) := by decide +kernel
theorem F_Law_1044 : fetch m_Law 1044 = some (.if_icmp .eq 5) := by decide +kernel
theorem F_Law_1047 : fetch m_Law 1047 = some (.iconst 0) := by decide +kernel
theorem F_Law_1048 : fetch m_Law 1048 = some (.ireturn) := by decide +kernel
theorem F_Law_1049 : fetch m_Law 1049 = some (.iload 5) := by decide +kernel
theorem F_Law_1051 : fetch m_Law 1051 = some (.ifCond .ne 15) := by decide +kernel
theorem F_Law_1054 : fetch m_Law 1054 = some (.aload_n 3) := by decide +kernel
theorem F_Law_1055 : fetch m_Law 1055 = some (.iconst 0) := by decide +kernel
theorem F_Law_1056 : fetch m_Law 1056 = some (.laload) := by decide +kernel
theorem F_Law_1057 : fetch m_Law 1057 = some (.iload 6) := by decide +kernel
theorem F_Law_1059 : fetch m_Law 1059 = some (.i2l) := by decide +kernel
theorem F_Law_1060 : fetch m_Law 1060 = some (.lcmp) := by decide +kernel
theorem F_Law_1061 : fetch m_Law 1061 = some (.ifCond .eq 5) := by decide +kernel
theorem F_Law_1064 : fetch m_Law 1064 = some (.iconst 0) := by decide +kernel
theorem F_Law_1065 : fetch m_Law 1065 = some (.ireturn) := by decide +kernel
theorem F_Law_1066 : fetch m_Law 1066 = some (.goto 393) := by decide +kernel
theorem F_Law_1069 : fetch m_Law 1069 = some (.aload_n 1) := by decide +kernel
theorem F_Law_1070 : fetch m_Law 1070 = some (.aload_n 0) := by decide +kernel
theorem F_Law_1071 : fetch m_Law 1071 = some (.iload 4) := by decide +kernel
theorem F_Law_1073 : fetch m_Law 1073 = some (.iconst 1) := by decide +kernel
theorem F_Law_1074 : fetch m_Law 1074 = some (.iadd) := by decide +kernel
theorem F_Law_1075 : fetch m_Law 1075 = some (.iaload) := by decide +kernel
theorem F_Law_1076 : fetch m_Law 1076 = some (.aload_n 3) := by decide +kernel
theorem F_Law_1077 : fetch m_Law 1077 = some (.invokestatic 169) := by decide +kernel
theorem F_Law_1080 : fetch m_Law 1080 = some (.istore 5) := by decide +kernel
theorem F_Law_1082 : fetch m_Law 1082 = some (.aload_n 2) := by decide +kernel
theorem F_Law_1083 : fetch m_Law 1083 = some (.aload_n 0) := by decide +kernel
theorem F_Law_1084 : fetch m_Law 1084 = some (.iload 4) := by decide +kernel
theorem F_Law_1086 : fetch m_Law 1086 = some (.iconst 1) := by decide +kernel
theorem F_Law_1087 : fetch m_Law 1087 = some (.iadd) := by decide +kernel
theorem F_Law_1088 : fetch m_Law 1088 = some (.iaload) := by decide +kernel
theorem F_Law_1089 : fetch m_Law 1089 = some (.invokevirtual 171) := by decide +kernel
theorem F_Law_1092 : fetch m_Law 1092 = some (.istore 6) := by decide +kernel
theorem F_Law_1094 : fetch m_Law 1094 = some (.aload_n 2) := by decide +kernel
theorem F_Law_1095 : fetch m_Law 1095 = some (.invokevirtual 101) := by decide +kernel
theorem F_Law_1098 : fetch m_Law 1098 = some (.iload 5) := by decide +kernel
theorem F_Law_1100 : fetch m_Law 1100 = some (.if_icmp .eq 5) := by decide +kernel
theorem F_Law_1103 : fetch m_Law 1103 = some (.iconst 0) := by decide +kernel
theorem F_Law_1104 : fetch m_Law 1104 = some (.ireturn) := by decide +kernel
theorem F_Law_1105 : fetch m_Law 1105 = some (.iload 5) := by decide +kernel
theorem F_Law_1107 : fetch m_Law 1107 = some (.ifCond .ne 15) := by decide +kernel
theorem F_Law_1110 : fetch m_Law 1110 = some (.aload_n 3) := by decide +kernel
theorem F_Law_1111 : fetch m_Law 1111 = some (.iconst 0) := by decide +kernel
theorem F_Law_1112 : fetch m_Law 1112 = some (.laload) := by decide +kernel
theorem F_Law_1113 : fetch m_Law 1113 = some (.iload 6) := by decide +kernel
theorem F_Law_1115 : fetch m_Law 1115 = some (.i2l) := by decide +kernel
theorem F_Law_1116 : fetch m_Law 1116 = some (.lcmp) := by decide +kernel
theorem F_Law_1117 : fetch m_Law 1117 = some (.ifCond .eq 5) := by decide +kernel
theorem F_Law_1120 : fetch m_Law 1120 = some (.iconst 0) := by decide +kernel
theorem F_Law_1121 : fetch m_Law 1121 = some (.ireturn) := by decide +kernel
theorem F_Law_1122 : fetch m_Law 1122 = some (.goto 337) := by decide +kernel
theorem F_Law_1125 : fetch m_Law 1125 = some (.aload_n 1) := by decide +kernel
theorem F_Law_1126 : fetch m_Law 1126 = some (.aload_n 0) := by decide +kernel
theorem F_Law_1127 : fetch m_Law 1127 = some (.iload 4) := by decide +kernel
theorem F_Law_1129 : fetch m_Law 1129 = some (.iconst 1) := by decide +kernel
theorem F_Law_1130 : fetch m_Law 1130 = some (.iadd) := by decide +kernel
theorem F_Law_1131 : fetch m_Law 1131 = some (.iaload) := by decide +kernel
theorem F_Law_1132 : fetch m_Law 1132 = some (.aload_n 3) := by decide +kernel
theorem F_Law_1133 : fetch m_Law 1133 = some (.invokestatic 172) := by decide +kernel
theorem F_Law_1136 : fetch m_Law 1136 = some (.istore 5) := by decide +kernel
theorem F_Law_1138 : fetch m_Law 1138 = some (.aload_n 2) := by decide +kernel
theorem F_Law_1139 : fetch m_Law 1139 = some (.aload_n 0) := by decide +kernel
theorem F_Law_1140 : fetch m_Law 1140 = some (.iload 4) := by decide +kernel
theorem F_Law_1142 : fetch m_Law 1142 = some (.iconst 1) := by decide +kernel
theorem F_Law_1143 : fetch m_Law 1143 = some (.iadd) := by decide +kernel
theorem F_Law_1144 : fetch m_Law 1144 = some (.iaload) := by decide +kernel
theorem F_Law_1145 : fetch m_Law 1145 = some (.invokevirtual 174) := by decide +kernel
theorem F_Law_1148 : fetch m_Law 1148 = some (.istore 6) := by decide +kernel
theorem F_Law_1150 : fetch m_Law 1150 = some (.aload_n 2) := by decide +kernel
theorem F_Law_1151 : fetch m_Law 1151 = some (.invokevirtual 101) := by decide +kernel
theorem F_Law_1154 : fetch m_Law 1154 = some (.iload 5) := by decide +kernel
theorem F_Law_1156 : fetch m_Law 1156 = some (.if_icmp .eq 5) := by decide +kernel
theorem F_Law_1159 : fetch m_Law 1159 = some (.iconst 0) := by decide +kernel
theorem F_Law_1160 : fetch m_Law 1160 = some (.ireturn) := by decide +kernel
theorem F_Law_1161 : fetch m_Law 1161 = some (.iload 5) := by decide +kernel
theorem F_Law_1163 : fetch m_Law 1163 = some (.ifCond .ne 15) := by decide +kernel
theorem F_Law_1166 : fetch m_Law 1166 = some (.aload_n 3) := by decide +kernel
theorem F_Law_1167 : fetch m_Law 1167 = some (.iconst 0) := by decide +kernel
theorem F_Law_1168 : fetch m_Law 1168 = some (.laload) := by decide +kernel
theorem F_Law_1169 : fetch m_Law 1169 = some (.iload 6) := by decide +kernel
theorem F_Law_1171 : fetch m_Law 1171 = some (.i2l) := by decide +kernel
theorem F_Law_1172 : fetch m_Law 1172 = some (.lcmp) := by decide +kernel
theorem F_Law_1173 : fetch m_Law 1173 = some (.ifCond .eq 5) := by decide +kernel
theorem F_Law_1176 : fetch m_Law 1176 = some (.iconst 0) := by decide +kernel
theorem F_Law_1177 : fetch m_Law 1177 = some (.ireturn) := by decide +kernel
theorem F_Law_1178 : fetch m_Law 1178 = some (.goto 281) := by decide +kernel
theorem F_Law_1181 : fetch m_Law 1181 = some (.aload_n 1) := by decide +kernel
theorem F_Law_1182 : fetch m_Law 1182 = some (.aload_n 0) := by decide +kernel
theorem F_Law_1183 : fetch m_Law 1183 = some (.iload 4) := by decide +kernel
theorem F_Law_1185 : fetch m_Law 1185 = some (.iconst 1) := by decide +kernel
theorem F_Law_1186 : fetch m_Law 1186 = some (.iadd) := by decide +kernel
theorem F_Law_1187 : fetch m_Law 1187 = some (.iaload) := by decide +kernel
theorem F_Law_1188 : fetch m_Law 1188 = some (.aload_n 3) := by decide +kernel
theorem F_Law_1189 : fetch m_Law 1189 = some (.invokestatic 175) := by decide +kernel
theorem F_Law_1192 : fetch m_Law 1192 = some (.istore 5) := by decide +kernel
theorem F_Law_1194 : fetch m_Law 1194 = some (.aload_n 2) := by decide +kernel
theorem F_Law_1195 : fetch m_Law 1195 = some (.aload_n 0) := by decide +kernel
theorem F_Law_1196 : fetch m_Law 1196 = some (.iload 4) := by decide +kernel
theorem F_Law_1198 : fetch m_Law 1198 = some (.iconst 1) := by decide +kernel
theorem F_Law_1199 : fetch m_Law 1199 = some (.iadd) := by decide +kernel
theorem F_Law_1200 : fetch m_Law 1200 = some (.iaload) := by decide +kernel
theorem F_Law_1201 : fetch m_Law 1201 = some (.invokevirtual 177) := by decide +kernel
theorem F_Law_1204 : fetch m_Law 1204 = some (.istore 6) := by decide +kernel
theorem F_Law_1206 : fetch m_Law 1206 = some (.aload_n 2) := by decide +kernel
theorem F_Law_1207 : fetch m_Law 1207 = some (.invokevirtual 101) := by decide +kernel
theorem F_Law_1210 : fetch m_Law 1210 = some (.iload 5) := by decide +kernel
theorem F_Law_1212 : fetch m_Law 1212 = some (.if_icmp .eq 5) := by decide +kernel
theorem F_Law_1215 : fetch m_Law 1215 = some (.iconst 0) := by decide +kernel
theorem F_Law_1216 : fetch m_Law 1216 = some (.ireturn) := by decide +kernel
theorem F_Law_1217 : fetch m_Law 1217 = some (.iload 5) := by decide +kernel
theorem F_Law_1219 : fetch m_Law 1219 = some (.ifCond .ne 15) := by decide +kernel
theorem F_Law_1222 : fetch m_Law 1222 = some (.aload_n 3) := by decide +kernel
theorem F_Law_1223 : fetch m_Law 1223 = some (.iconst 0) := by decide +kernel
theorem F_Law_1224 : fetch m_Law 1224 = some (.laload) := by decide +kernel
theorem F_Law_1225 : fetch m_Law 1225 = some (.iload 6) := by decide +kernel
theorem F_Law_1227 : fetch m_Law 1227 = some (.i2l) := by decide +kernel
theorem F_Law_1228 : fetch m_Law 1228 = some (.lcmp) := by decide +kernel
theorem F_Law_1229 : fetch m_Law 1229 = some (.ifCond .eq 5) := by decide +kernel
theorem F_Law_1232 : fetch m_Law 1232 = some (.iconst 0) := by decide +kernel
theorem F_Law_1233 : fetch m_Law 1233 = some (.ireturn) := by decide +kernel
theorem F_Law_1234 : fetch m_Law 1234 = some (.goto 225) := by decide +kernel
theorem F_Law_1237 : fetch m_Law 1237 = some (.aload_n 1) := by decide +kernel
theorem F_Law_1238 : fetch m_Law 1238 = some (.aload_n 0) := by decide +kernel
theorem F_Law_1239 : fetch m_Law 1239 = some (.iload 4) := by decide +kernel
theorem F_Law_1241 : fetch m_Law 1241 = some (.iconst 1) := by decide +kernel
theorem F_Law_1242 : fetch m_Law 1242 = some (.iadd) := by decide +kernel
theorem F_Law_1243 : fetch m_Law 1243 = some (.iaload) := by decide +kernel
theorem F_Law_1244 : fetch m_Law 1244 = some (.invokevirtual 178) := by decide +kernel
theorem F_Law_1247 : fetch m_Law 1247 = some (.aload_n 2) := by decide +kernel
theorem F_Law_1248 : fetch m_Law 1248 = some (.aload_n 0) := by decide +kernel
theorem F_Law_1249 : fetch m_Law 1249 = some (.iload 4) := by decide +kernel
theorem F_Law_1251 : fetch m_Law 1251 = some (.iconst 1) := by decide +kernel
theorem F_Law_1252 : fetch m_Law 1252 = some (.iadd) := by decide +kernel
theorem F_Law_1253 : fetch m_Law 1253 = some (.iaload) := by decide +kernel
theorem F_Law_1254 : fetch m_Law 1254 = some (.invokevirtual 181) := by decide +kernel
theorem F_Law_1257 : fetch m_Law 1257 = some (.if_icmp .eq 202) := by decide +kernel
theorem F_Law_1260 : fetch m_Law 1260 = some (.iconst 0) := by decide +kernel
theorem F_Law_1261 : fetch m_Law 1261 = some (.ireturn) := by decide +kernel
theorem F_Law_1262 : fetch m_Law 1262 = some (.aload_n 1) := by decide +kernel
theorem F_Law_1263 : fetch m_Law 1263 = some (.aload_n 0) := by decide +kernel
theorem F_Law_1264 : fetch m_Law 1264 = some (.iload 4) := by decide +kernel
theorem F_Law_1266 : fetch m_Law 1266 = some (.iconst 1) := by decide +kernel
theorem F_Law_1267 : fetch m_Law 1267 = some (.iadd) := by decide +kernel
theorem F_Law_1268 : fetch m_Law 1268 = some (.iaload) := by decide +kernel
theorem F_Law_1269 : fetch m_Law 1269 = some (.aload_n 0) := by decide +kernel
theorem F_Law_1270 : fetch m_Law 1270 = some (.iload 4) := by decide +kernel
theorem F_Law_1272 : fetch m_Law 1272 = some (.iconst 2) := by decide +kernel
theorem F_Law_1273 : fetch m_Law 1273 = some (.iadd) := by decide +kernel
theorem F_Law_1274 : fetch m_Law 1274 = some (.iaload) := by decide +kernel
theorem F_Law_1275 : fetch m_Law 1275 = some (.aload_n 3) := by decide +kernel
theorem F_Law_1276 : fetch m_Law 1276 = some (.invokestatic 182) := by decide +kernel
theorem F_Law_1279 : fetch m_Law 1279 = some (.istore 5) := by decide +kernel
theorem F_Law_1281 : fetch m_Law 1281 = some (.aload_n 2) := by decide +kernel
theorem F_Law_1282 : fetch m_Law 1282 = some (.aload_n 0) := by decide +kernel
theorem F_Law_1283 : fetch m_Law 1283 = some (.iload 4) := by decide +kernel
theorem F_Law_1285 : fetch m_Law 1285 = some (.iconst 1) := by decide +kernel
theorem F_Law_1286 : fetch m_Law 1286 = some (.iadd) := by decide +kernel
theorem F_Law_1287 : fetch m_Law 1287 = some (.iaload) := by decide +kernel
theorem F_Law_1288 : fetch m_Law 1288 = some (.aload_n 0) := by decide +kernel
theorem F_Law_1289 : fetch m_Law 1289 = some (.iload 4) := by decide +kernel
theorem F_Law_1291 : fetch m_Law 1291 = some (.iconst 2) := by decide +kernel
theorem F_Law_1292 : fetch m_Law 1292 = some (.iadd) := by decide +kernel
theorem F_Law_1293 : fetch m_Law 1293 = some (.iaload) := by decide +kernel
theorem F_Law_1294 : fetch m_Law 1294 = some (.invokevirtual 185) := by decide +kernel
theorem F_Law_1297 : fetch m_Law 1297 = some (.lstore 6) := by decide +kernel
theorem F_Law_1299 : fetch m_Law 1299 = some (.aload_n 2) := by decide +kernel
theorem F_Law_1300 : fetch m_Law 1300 = some (.invokevirtual 101) := by decide +kernel
theorem F_Law_1303 : fetch m_Law 1303 = some (.iload 5) := by decide +kernel
theorem F_Law_1305 : fetch m_Law 1305 = some (.if_icmp .eq 5) := by decide +kernel
theorem F_Law_1308 : fetch m_Law 1308 = some (.iconst 0) := by decide +kernel
theorem F_Law_1309 : fetch m_Law 1309 = some (.ireturn) := by decide +kernel
theorem F_Law_1310 : fetch m_Law 1310 = some (.iload 5) := by decide +kernel
theorem F_Law_1312 : fetch m_Law 1312 = some (.ifCond .ne 14) := by decide +kernel
theorem F_Law_1315 : fetch m_Law 1315 = some (.aload_n 3) := by decide +kernel
theorem F_Law_1316 : fetch m_Law 1316 = some (.iconst 0) := by decide +kernel
theorem F_Law_1317 : fetch m_Law 1317 = some (.laload) := by decide +kernel
theorem F_Law_1318 : fetch m_Law 1318 = some (.lload 6) := by decide +kernel
theorem F_Law_1320 : fetch m_Law 1320 = some (.lcmp) := by decide +kernel
theorem F_Law_1321 : fetch m_Law 1321 = some (.ifCond .eq 5) := by decide +kernel
theorem F_Law_1324 : fetch m_Law 1324 = some (.iconst 0) := by decide +kernel
theorem F_Law_1325 : fetch m_Law 1325 = some (.ireturn) := by decide +kernel
theorem F_Law_1326 : fetch m_Law 1326 = some (.goto 133) := by decide +kernel
theorem F_Law_1329 : fetch m_Law 1329 = some (.aload_n 1) := by decide +kernel
theorem F_Law_1330 : fetch m_Law 1330 = some (.aload_n 0) := by decide +kernel
theorem F_Law_1331 : fetch m_Law 1331 = some (.iload 4) := by decide +kernel
theorem F_Law_1333 : fetch m_Law 1333 = some (.iconst 1) := by decide +kernel
theorem F_Law_1334 : fetch m_Law 1334 = some (.iadd) := by decide +kernel
theorem F_Law_1335 : fetch m_Law 1335 = some (.iaload) := by decide +kernel
theorem F_Law_1336 : fetch m_Law 1336 = some (.aload_n 0) := by decide +kernel
theorem F_Law_1337 : fetch m_Law 1337 = some (.iload 4) := by decide +kernel
theorem F_Law_1339 : fetch m_Law 1339 = some (.iconst 2) := by decide +kernel
theorem F_Law_1340 : fetch m_Law 1340 = some (.iadd) := by decide +kernel
theorem F_Law_1341 : fetch m_Law 1341 = some (.iaload) := by decide +kernel
theorem F_Law_1342 : fetch m_Law 1342 = some (.aload_n 3) := by decide +kernel
theorem F_Law_1343 : fetch m_Law 1343 = some (.invokestatic 186) := by decide +kernel
theorem F_Law_1346 : fetch m_Law 1346 = some (.istore 5) := by decide +kernel
theorem F_Law_1348 : fetch m_Law 1348 = some (.aload_n 2) := by decide +kernel
theorem F_Law_1349 : fetch m_Law 1349 = some (.aload_n 0) := by decide +kernel
theorem F_Law_1350 : fetch m_Law 1350 = some (.iload 4) := by decide +kernel
theorem F_Law_1352 : fetch m_Law 1352 = some (.iconst 1) := by decide +kernel
theorem F_Law_1353 : fetch m_Law 1353 = some (.iadd) := by decide +kernel
theorem F_Law_1354 : fetch m_Law 1354 = some (.iaload) := by decide +kernel
theorem F_Law_1355 : fetch m_Law 1355 = some (.aload_n 0) := by decide +kernel
theorem F_Law_1356 : fetch m_Law 1356 = some (.iload 4) := by decide +kernel
theorem F_Law_1358 : fetch m_Law 1358 = some (.iconst 2) := by decide +kernel
theorem F_Law_1359 : fetch m_Law 1359 = some (.iadd) := by decide +kernel
theorem F_Law_1360 : fetch m_Law 1360 = some (.iaload) := by decide +kernel
theorem F_Law_1361 : fetch m_Law 1361 = some (.invokevirtual 188) := by decide +kernel
theorem F_Law_1364 : fetch m_Law 1364 = some (.lstore 6) := by decide +kernel
theorem F_Law_1366 : fetch m_Law 1366 = some (.aload_n 2) := by decide +kernel
theorem F_Law_1367 : fetch m_Law 1367 = some (.invokevirtual 101) := by decide +kernel
theorem F_Law_1370 : fetch m_Law 1370 = some (.iload 5) := by decide +kernel
theorem F_Law_1372 : fetch m_Law 1372 = some (.if_icmp .eq 5) := by decide +kernel
theorem F_Law_1375 : fetch m_Law 1375 = some (.iconst 0) := by decide +kernel
theorem F_Law_1376 : fetch m_Law 1376 = some (.ireturn) := by decide +kernel
theorem F_Law_1377 : fetch m_Law 1377 = some (.iload 5) := by decide +kernel
theorem F_Law_1379 : fetch m_Law 1379 = some (.ifCond .ne 14) := by decide +kernel
theorem F_Law_1382 : fetch m_Law 1382 = some (.aload_n 3) := by decide +kernel
theorem F_Law_1383 : fetch m_Law 1383 = some (.iconst 0) := by decide +kernel
theorem F_Law_1384 : fetch m_Law 1384 = some (.laload) := by decide +kernel
theorem F_Law_1385 : fetch m_Law 1385 = some (.lload 6) := by decide +kernel
theorem F_Law_1387 : fetch m_Law 1387 = some (.lcmp) := by decide +kernel
theorem F_Law_1388 : fetch m_Law 1388 = some (.ifCond .eq 5) := by decide +kernel
theorem F_Law_1391 : fetch m_Law 1391 = some (.iconst 0) := by decide +kernel
theorem F_Law_1392 : fetch m_Law 1392 = some (.ireturn) := by decide +kernel
theorem F_Law_1393 : fetch m_Law 1393 = some (.goto 66) := by decide +kernel
theorem F_Law_1396 : fetch m_Law 1396 = some (.aload_n 1) := by decide +kernel
theorem F_Law_1397 : fetch m_Law 1397 = some (.aload_n 0) := by decide +kernel
theorem F_Law_1398 : fetch m_Law 1398 = some (.iload 4) := by decide +kernel
theorem F_Law_1400 : fetch m_Law 1400 = some (.iconst 1) := by decide +kernel
theorem F_Law_1401 : fetch m_Law 1401 = some (.iadd) := by decide +kernel
theorem F_Law_1402 : fetch m_Law 1402 = some (.iaload) := by decide +kernel
theorem F_Law_1403 : fetch m_Law 1403 = some (.aload_n 3) := by decide +kernel
theorem F_Law_1404 : fetch m_Law 1404 = some (.invokestatic 189) := by decide +kernel
theorem F_Law_1407 : fetch m_Law 1407 = some (.istore 5) := by decide +kernel
theorem F_Law_1409 : fetch m_Law 1409 = some (.aload_n 2) := by decide +kernel
theorem F_Law_1410 : fetch m_Law 1410 = some (.aload_n 0) := by decide +kernel
theorem F_Law_1411 : fetch m_Law 1411 = some (.iload 4) := by decide +kernel
theorem F_Law_1413 : fetch m_Law 1413 = some (.iconst 1) := by decide +kernel
theorem F_Law_1414 : fetch m_Law 1414 = some (.iadd) := by decide +kernel
theorem F_Law_1415 : fetch m_Law 1415 = some (.iaload) := by decide +kernel
theorem F_Law_1416 : fetch m_Law 1416 = some (.invokevirtual 191) := by decide +kernel
theorem F_Law_1419 : fetch m_Law 1419 = some (.istore 6) := by decide +kernel
theorem F_Law_1421 : fetch m_Law 1421 = some (.aload_n 2) := by decide +kernel
theorem F_Law_1422 : fetch m_Law 1422 = some (.invokevirtual 101) := by decide +kernel
theorem F_Law_1425 : fetch m_Law 1425 = some (.iload 5) := by decide +kernel
theorem F_Law_1427 : fetch m_Law 1427 = some (.if_icmp .eq 5) := by decide +kernel
theorem F_Law_1430 : fetch m_Law 1430 = some (.iconst 0) := by decide +kernel
theorem F_Law_1431 : fetch m_Law 1431 = some (.ireturn) := by decide +kernel
theorem F_Law_1432 : fetch m_Law 1432 = some (.iload 5) := by decide +kernel
theorem F_Law_1434 : fetch m_Law 1434 = some (.ifCond .ne 22) := by decide +kernel
theorem F_Law_1437 : fetch m_Law 1437 = some (.aload_n 3) := by decide +kernel
theorem F_Law_1438 : fetch m_Law 1438 = some (.iconst 0) := by decide +kernel
theorem F_Law_1439 : fetch m_Law 1439 = some (.laload) := by decide +kernel
theorem F_Law_1440 : fetch m_Law 1440 = some (.iload 6) := by decide +kernel
theorem F_Law_1442 : fetch m_Law 1442 = some (.ifCond .eq 7) := by decide +kernel
theorem F_Law_1445 : fetch m_Law 1445 = some (.lconst 1) := by decide +kernel
theorem F_Law_1446 : fetch m_Law 1446 = some (.goto 4) := by decide +kernel
theorem F_Law_1449 : fetch m_Law 1449 = some (.lconst 0) := by decide +kernel
theorem F_Law_1450 : fetch m_Law 1450 = some (.lcmp) := by decide +kernel
theorem F_Law_1451 : fetch m_Law 1451 = some (.ifCond .eq 5) := by decide +kernel
theorem F_Law_1454 : fetch m_Law 1454 = some (.iconst 0) := by decide +kernel
theorem F_Law_1455 : fetch m_Law 1455 = some (.ireturn) := by decide +kernel
theorem F_Law_1456 : fetch m_Law 1456 = some (.goto 3) := by decide +kernel
theorem F_Law_1459 : fetch m_Law 1459 = some (.iinc 4 5) := by decide +kernel
theorem F_Law_1462 : fetch m_Law 1462 = some (.goto (-1439)) := by decide +kernel
theorem F_Law_1465 : fetch m_Law 1465 = some (.iconst 1) := by decide +kernel
theorem F_Law_1466 : fetch m_Law 1466 = some (.ireturn) := by decide +kernel
