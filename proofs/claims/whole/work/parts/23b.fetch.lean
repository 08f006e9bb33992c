theorem F_PJ_init_0 : fetch m_PJ_init 0 = some (.aload_n 0) := by decide +kernel
theorem F_PJ_init_1 : fetch m_PJ_init 1 = some (.invokespecial 1) := by decide +kernel
theorem F_PJ_init_4 : fetch m_PJ_init 4 = some (.aload_n 0) := by decide +kernel
theorem F_PJ_init_5 : fetch m_PJ_init 5 = some (.new 7) := by decide +kernel
theorem F_PJ_init_8 : fetch m_PJ_init 8 = some (.dup) := by decide +kernel
theorem F_PJ_init_9 : fetch m_PJ_init 9 = some (.iconst 2) := by decide +kernel
theorem F_PJ_init_10 : fetch m_PJ_init 10 = some (.invokespecial 9) := by decide +kernel
theorem F_PJ_init_13 : fetch m_PJ_init 13 = some (.putfield 12) := by decide +kernel
theorem F_PJ_init_16 : fetch m_PJ_init 16 = some (.aload_n 0) := by decide +kernel
theorem F_PJ_init_17 : fetch m_PJ_init 17 = some (.new 18) := by decide +kernel
theorem F_PJ_init_20 : fetch m_PJ_init 20 = some (.dup) := by decide +kernel
theorem F_PJ_init_21 : fetch m_PJ_init 21 = some (.invokespecial 20) := by decide +kernel
theorem F_PJ_init_24 : fetch m_PJ_init 24 = some (.putfield 21) := by decide +kernel
theorem F_PJ_init_27 : fetch m_PJ_init 27 = some (.aload_n 0) := by decide +kernel
theorem F_PJ_init_28 : fetch m_PJ_init 28 = some (.new 25) := by decide +kernel
theorem F_PJ_init_31 : fetch m_PJ_init 31 = some (.dup) := by decide +kernel
theorem F_PJ_init_32 : fetch m_PJ_init 32 = some (.invokespecial 27) := by decide +kernel
theorem F_PJ_init_35 : fetch m_PJ_init 35 = some (.putfield 28) := by decide +kernel
theorem F_PJ_init_38 : fetch m_PJ_init 38 = some (.aload_n 0) := by decide +kernel
theorem F_PJ_init_39 : fetch m_PJ_init 39 = some (.new 32) := by decide +kernel
theorem F_PJ_init_42 : fetch m_PJ_init 42 = some (.dup) := by decide +kernel
theorem F_PJ_init_43 : fetch m_PJ_init 43 = some (.invokespecial 34) := by decide +kernel
theorem F_PJ_init_46 : fetch m_PJ_init 46 = some (.putfield 35) := by decide +kernel
theorem F_PJ_init_49 : fetch m_PJ_init 49 = some (.aload_n 0) := by decide +kernel
theorem F_PJ_init_50 : fetch m_PJ_init 50 = some (.new 39) := by decide +kernel
theorem F_PJ_init_53 : fetch m_PJ_init 53 = some (.dup) := by decide +kernel
theorem F_PJ_init_54 : fetch m_PJ_init 54 = some (.invokespecial 41) := by decide +kernel
theorem F_PJ_init_57 : fetch m_PJ_init 57 = some (.putfield 42) := by decide +kernel
theorem F_PJ_init_60 : fetch m_PJ_init 60 = some (.aload_n 0) := by decide +kernel
theorem F_PJ_init_61 : fetch m_PJ_init 61 = some (.new 46) := by decide +kernel
theorem F_PJ_init_64 : fetch m_PJ_init 64 = some (.dup) := by decide +kernel
theorem F_PJ_init_65 : fetch m_PJ_init 65 = some (.invokespecial 48) := by decide +kernel
theorem F_PJ_init_68 : fetch m_PJ_init 68 = some (.putfield 49) := by decide +kernel
theorem F_PJ_init_71 : fetch m_PJ_init 71 = some (.return_) := by decide +kernel
theorem F_PJ_clear_0 : fetch m_PJ_clear 0 = some (.aload_n 0) := by decide +kernel
theorem F_PJ_clear_1 : fetch m_PJ_clear 1 = some (.getfield 28) := by decide +kernel
theorem F_PJ_clear_4 : fetch m_PJ_clear 4 = some (.invokevirtual 172) := by decide +kernel
theorem F_PJ_clear_7 : fetch m_PJ_clear 7 = some (.return_) := by decide +kernel
theorem F_PJ_judge_0 : fetch m_PJ_judge 0 = some (.aload_n 0) := by decide +kernel
theorem F_PJ_judge_1 : fetch m_PJ_judge 1 = some (.getfield 42) := by decide +kernel
theorem F_PJ_judge_4 : fetch m_PJ_judge 4 = some (.aload_n 0) := by decide +kernel
theorem F_PJ_judge_5 : fetch m_PJ_judge 5 = some (.getfield 21) := by decide +kernel
theorem F_PJ_judge_8 : fetch m_PJ_judge 8 = some (.aload_n 0) := by decide +kernel
theorem F_PJ_judge_9 : fetch m_PJ_judge 9 = some (.getfield 28) := by decide +kernel
theorem F_PJ_judge_12 : fetch m_PJ_judge 12 = some (.invokevirtual 175) := by decide +kernel
theorem F_PJ_judge_15 : fetch m_PJ_judge 15 = some (.istore_n 1) := by decide +kernel
theorem F_PJ_judge_16 : fetch m_PJ_judge 16 = some (.aload_n 0) := by decide +kernel
theorem F_PJ_judge_17 : fetch m_PJ_judge 17 = some (.getfield 35) := by decide +kernel
theorem F_PJ_judge_20 : fetch m_PJ_judge 20 = some (.iload_n 1) := by decide +kernel
theorem F_PJ_judge_21 : fetch m_PJ_judge 21 = some (.aload_n 0) := by decide +kernel
theorem F_PJ_judge_22 : fetch m_PJ_judge 22 = some (.getfield 42) := by decide +kernel
theorem F_PJ_judge_25 : fetch m_PJ_judge 25 = some (.getfield 179) := by decide +kernel
theorem F_PJ_judge_28 : fetch m_PJ_judge 28 = some (.aload_n 0) := by decide +kernel
theorem F_PJ_judge_29 : fetch m_PJ_judge 29 = some (.getfield 42) := by decide +kernel
theorem F_PJ_judge_32 : fetch m_PJ_judge 32 = some (.getfield 182) := by decide +kernel
theorem F_PJ_judge_35 : fetch m_PJ_judge 35 = some (.invokevirtual 185) := by decide +kernel
theorem F_PJ_judge_38 : fetch m_PJ_judge 38 = some (.iload_n 1) := by decide +kernel
theorem F_PJ_judge_39 : fetch m_PJ_judge 39 = some (.ireturn) := by decide +kernel
theorem F_PJ_isEnd_0 : fetch m_PJ_isEnd 0 = some (.iload_n 0) := by decide +kernel
theorem F_PJ_isEnd_1 : fetch m_PJ_isEnd 1 = some (.iconst 1) := by decide +kernel
theorem F_PJ_isEnd_2 : fetch m_PJ_isEnd 2 = some (.iand) := by decide +kernel
theorem F_PJ_isEnd_3 : fetch m_PJ_isEnd 3 = some (.ifCond .eq 7) := by decide +kernel
theorem F_PJ_isEnd_6 : fetch m_PJ_isEnd 6 = some (.iconst 1) := by decide +kernel
theorem F_PJ_isEnd_7 : fetch m_PJ_isEnd 7 = some (.goto 4) := by decide +kernel
theorem F_PJ_isEnd_10 : fetch m_PJ_isEnd 10 = some (.iconst 0) := by decide +kernel
theorem F_PJ_isEnd_11 : fetch m_PJ_isEnd 11 = some (.ireturn) := by decide +kernel
theorem F_PJ_timeOf_0 : fetch m_PJ_timeOf 0 = some (.iload_n 0) := by decide +kernel
theorem F_PJ_timeOf_1 : fetch m_PJ_timeOf 1 = some (.invokestatic 193) := by decide +kernel
theorem F_PJ_timeOf_4 : fetch m_PJ_timeOf 4 = some (.ifCond .eq 7) := by decide +kernel
theorem F_PJ_timeOf_7 : fetch m_PJ_timeOf 7 = some (.iconst 2) := by decide +kernel
theorem F_PJ_timeOf_8 : fetch m_PJ_timeOf 8 = some (.goto 4) := by decide +kernel
theorem F_PJ_timeOf_11 : fetch m_PJ_timeOf 11 = some (.iconst 0) := by decide +kernel
theorem F_PJ_timeOf_12 : fetch m_PJ_timeOf 12 = some (.ireturn) := by decide +kernel
theorem F_PJ_pop_0 : fetch m_PJ_pop 0 = some (.aload_n 0) := by decide +kernel
theorem F_PJ_pop_1 : fetch m_PJ_pop 1 = some (.getfield 28) := by decide +kernel
theorem F_PJ_pop_4 : fetch m_PJ_pop 4 = some (.getfield 202) := by decide +kernel
theorem F_PJ_pop_7 : fetch m_PJ_pop 7 = some (.ifCond .ne 7) := by decide +kernel
theorem F_PJ_pop_10 : fetch m_PJ_pop 10 = some (.iconst (-1)) := by decide +kernel
theorem F_PJ_pop_11 : fetch m_PJ_pop 11 = some (.goto 10) := by decide +kernel
theorem F_PJ_pop_14 : fetch m_PJ_pop 14 = some (.aload_n 0) := by decide +kernel
theorem F_PJ_pop_15 : fetch m_PJ_pop 15 = some (.getfield 28) := by decide +kernel
theorem F_PJ_pop_18 : fetch m_PJ_pop 18 = some (.invokevirtual 205) := by decide +kernel
theorem F_PJ_pop_21 : fetch m_PJ_pop 21 = some (.ireturn) := by decide +kernel
theorem F_PJ_at_0 : fetch m_PJ_at 0 = some (.iload_n 1) := by decide +kernel
theorem F_PJ_at_1 : fetch m_PJ_at 1 = some (.ifCond .lt 14) := by decide +kernel
theorem F_PJ_at_4 : fetch m_PJ_at 4 = some (.iload_n 1) := by decide +kernel
theorem F_PJ_at_5 : fetch m_PJ_at 5 = some (.aload_n 0) := by decide +kernel
theorem F_PJ_at_6 : fetch m_PJ_at 6 = some (.getfield 28) := by decide +kernel
theorem F_PJ_at_9 : fetch m_PJ_at 9 = some (.getfield 202) := by decide +kernel
theorem F_PJ_at_12 : fetch m_PJ_at 12 = some (.if_icmp .lt 7) := by decide +kernel
theorem F_PJ_at_15 : fetch m_PJ_at 15 = some (.iconst (-1)) := by decide +kernel
theorem F_PJ_at_16 : fetch m_PJ_at 16 = some (.goto 12) := by decide +kernel
theorem F_PJ_at_19 : fetch m_PJ_at 19 = some (.aload_n 0) := by decide +kernel
theorem F_PJ_at_20 : fetch m_PJ_at 20 = some (.getfield 28) := by decide +kernel
theorem F_PJ_at_23 : fetch m_PJ_at 23 = some (.getfield 241) := by decide +kernel
theorem F_PJ_at_26 : fetch m_PJ_at 26 = some (.iload_n 1) := by decide +kernel
theorem F_PJ_at_27 : fetch m_PJ_at 27 = some (.iaload) := by decide +kernel
theorem F_PJ_at_28 : fetch m_PJ_at 28 = some (.ireturn) := by decide +kernel
theorem F_PJ_amount_0 : fetch m_PJ_amount 0 = some (.aload_n 0) := by decide +kernel
theorem F_PJ_amount_1 : fetch m_PJ_amount 1 = some (.iconst 0) := by decide +kernel
theorem F_PJ_amount_2 : fetch m_PJ_amount 2 = some (.iload_n 1) := by decide +kernel
theorem F_PJ_amount_3 : fetch m_PJ_amount 3 = some (.iload_n 2) := by decide +kernel
theorem F_PJ_amount_4 : fetch m_PJ_amount 4 = some (.invokevirtual 53) := by decide +kernel
theorem F_PJ_amount_7 : fetch m_PJ_amount 7 = some (.return_) := by decide +kernel
theorem F_PJ_takeInHand_0 : fetch m_PJ_takeInHand 0 = some (.iload_n 2) := by decide +kernel
theorem F_PJ_takeInHand_1 : fetch m_PJ_takeInHand 1 = some (.ldc 255) := by decide +kernel
theorem F_PJ_takeInHand_3 : fetch m_PJ_takeInHand 3 = some (.ldc_w 256) := by decide +kernel
theorem F_PJ_takeInHand_6 : fetch m_PJ_takeInHand 6 = some (.invokestatic 92) := by decide +kernel
theorem F_PJ_takeInHand_9 : fetch m_PJ_takeInHand 9 = some (.iload_n 3) := by decide +kernel
theorem F_PJ_takeInHand_10 : fetch m_PJ_takeInHand 10 = some (.iconst 1) := by decide +kernel
theorem F_PJ_takeInHand_11 : fetch m_PJ_takeInHand 11 = some (.sipush 1000) := by decide +kernel
theorem F_PJ_takeInHand_14 : fetch m_PJ_takeInHand 14 = some (.invokestatic 92) := by decide +kernel
theorem F_PJ_takeInHand_17 : fetch m_PJ_takeInHand 17 = some (.aload_n 0) := by decide +kernel
theorem F_PJ_takeInHand_18 : fetch m_PJ_takeInHand 18 = some (.getfield 12) := by decide +kernel
theorem F_PJ_takeInHand_21 : fetch m_PJ_takeInHand 21 = some (.iload_n 1) := by decide +kernel
theorem F_PJ_takeInHand_22 : fetch m_PJ_takeInHand 22 = some (.iload_n 2) := by decide +kernel
theorem F_PJ_takeInHand_23 : fetch m_PJ_takeInHand 23 = some (.i2l) := by decide +kernel
theorem F_PJ_takeInHand_24 : fetch m_PJ_takeInHand 24 = some (.iload_n 3) := by decide +kernel
theorem F_PJ_takeInHand_25 : fetch m_PJ_takeInHand 25 = some (.i2l) := by decide +kernel
theorem F_PJ_takeInHand_26 : fetch m_PJ_takeInHand 26 = some (.invokevirtual 257) := by decide +kernel
theorem F_PJ_takeInHand_29 : fetch m_PJ_takeInHand 29 = some (.return_) := by decide +kernel
theorem F_PJ_checkChoice_0 : fetch m_PJ_checkChoice 0 = some (.iload_n 0) := by decide +kernel
theorem F_PJ_checkChoice_1 : fetch m_PJ_checkChoice 1 = some (.iload_n 1) := by decide +kernel
theorem F_PJ_checkChoice_2 : fetch m_PJ_checkChoice 2 = some (.if_icmp .lt 8) := by decide +kernel
theorem F_PJ_checkChoice_5 : fetch m_PJ_checkChoice 5 = some (.iload_n 0) := by decide +kernel
theorem F_PJ_checkChoice_6 : fetch m_PJ_checkChoice 6 = some (.iload_n 2) := by decide +kernel
theorem F_PJ_checkChoice_7 : fetch m_PJ_checkChoice 7 = some (.if_icmp .le 11) := by decide +kernel
theorem F_PJ_checkChoice_10 : fetch m_PJ_checkChoice 10 = some (.new 61) := by decide +kernel
theorem F_PJ_checkChoice_13 : fetch m_PJ_checkChoice 13 = some (.dup) := by decide +kernel
theorem F_PJ_checkChoice_14 : fetch m_PJ_checkChoice 14 = some (.invokespecial 63) := by decide +kernel
theorem F_PJ_checkChoice_17 : fetch m_PJ_checkChoice 17 = some (.athrow) := by decide +kernel
theorem F_PJ_checkChoice_18 : fetch m_PJ_checkChoice 18 = some (.return_) := by decide +kernel
theorem F_PJ_moment_0 : fetch m_PJ_moment 0 = some (.aload_n 0) := by decide +kernel
theorem F_PJ_moment_1 : fetch m_PJ_moment 1 = some (.iconst 1) := by decide +kernel
theorem F_PJ_moment_2 : fetch m_PJ_moment 2 = some (.iload_n 1) := by decide +kernel
theorem F_PJ_moment_3 : fetch m_PJ_moment 3 = some (.iload_n 2) := by decide +kernel
theorem F_PJ_moment_4 : fetch m_PJ_moment 4 = some (.invokevirtual 53) := by decide +kernel
theorem F_PJ_moment_7 : fetch m_PJ_moment 7 = some (.return_) := by decide +kernel
theorem F_PJ_epsilon_0 : fetch m_PJ_epsilon 0 = some (.aload_n 0) := by decide +kernel
theorem F_PJ_epsilon_1 : fetch m_PJ_epsilon 1 = some (.getfield 12) := by decide +kernel
theorem F_PJ_epsilon_4 : fetch m_PJ_epsilon 4 = some (.getfield 57) := by decide +kernel
theorem F_PJ_epsilon_7 : fetch m_PJ_epsilon 7 = some (.iconst 0) := by decide +kernel
theorem F_PJ_epsilon_8 : fetch m_PJ_epsilon 8 = some (.laload) := by decide +kernel
theorem F_PJ_epsilon_9 : fetch m_PJ_epsilon 9 = some (.lconst 0) := by decide +kernel
theorem F_PJ_epsilon_10 : fetch m_PJ_epsilon 10 = some (.lcmp) := by decide +kernel
theorem F_PJ_epsilon_11 : fetch m_PJ_epsilon 11 = some (.ifCond .gt 11) := by decide +kernel
theorem F_PJ_epsilon_14 : fetch m_PJ_epsilon 14 = some (.new 61) := by decide +kernel
theorem F_PJ_epsilon_17 : fetch m_PJ_epsilon 17 = some (.dup) := by decide +kernel
theorem F_PJ_epsilon_18 : fetch m_PJ_epsilon 18 = some (.invokespecial 63) := by decide +kernel
theorem F_PJ_epsilon_21 : fetch m_PJ_epsilon 21 = some (.athrow) := by decide +kernel
theorem F_PJ_epsilon_22 : fetch m_PJ_epsilon 22 = some (.aload_n 0) := by decide +kernel
theorem F_PJ_epsilon_23 : fetch m_PJ_epsilon 23 = some (.getfield 21) := by decide +kernel
theorem F_PJ_epsilon_26 : fetch m_PJ_epsilon 26 = some (.getfield 64) := by decide +kernel
theorem F_PJ_epsilon_29 : fetch m_PJ_epsilon 29 = some (.iconst 0) := by decide +kernel
theorem F_PJ_epsilon_30 : fetch m_PJ_epsilon 30 = some (.aload_n 0) := by decide +kernel
theorem F_PJ_epsilon_31 : fetch m_PJ_epsilon 31 = some (.getfield 12) := by decide +kernel
theorem F_PJ_epsilon_34 : fetch m_PJ_epsilon 34 = some (.iconst 0) := by decide +kernel
theorem F_PJ_epsilon_35 : fetch m_PJ_epsilon 35 = some (.invokevirtual 67) := by decide +kernel
theorem F_PJ_epsilon_38 : fetch m_PJ_epsilon 38 = some (.return_) := by decide +kernel
theorem F_PJ_fact_0 : fetch m_PJ_fact 0 = some (.iload_n 1) := by decide +kernel
theorem F_PJ_fact_1 : fetch m_PJ_fact 1 = some (.bipush 16) := by decide +kernel
theorem F_PJ_fact_3 : fetch m_PJ_fact 3 = some (.invokestatic 71) := by decide +kernel
theorem F_PJ_fact_6 : fetch m_PJ_fact 6 = some (.aload_n 0) := by decide +kernel
theorem F_PJ_fact_7 : fetch m_PJ_fact 7 = some (.getfield 21) := by decide +kernel
theorem F_PJ_fact_10 : fetch m_PJ_fact 10 = some (.getfield 75) := by decide +kernel
theorem F_PJ_fact_13 : fetch m_PJ_fact 13 = some (.getfield 79) := by decide +kernel
theorem F_PJ_fact_16 : fetch m_PJ_fact 16 = some (.iload_n 1) := by decide +kernel
theorem F_PJ_fact_17 : fetch m_PJ_fact 17 = some (.invokestatic 85) := by decide +kernel
theorem F_PJ_fact_20 : fetch m_PJ_fact 20 = some (.iconst (-1)) := by decide +kernel
theorem F_PJ_fact_21 : fetch m_PJ_fact 21 = some (.ixor) := by decide +kernel
theorem F_PJ_fact_22 : fetch m_PJ_fact 22 = some (.iand) := by decide +kernel
theorem F_PJ_fact_23 : fetch m_PJ_fact 23 = some (.istore_n 3) := by decide +kernel
theorem F_PJ_fact_24 : fetch m_PJ_fact 24 = some (.aload_n 0) := by decide +kernel
theorem F_PJ_fact_25 : fetch m_PJ_fact 25 = some (.getfield 21) := by decide +kernel
theorem F_PJ_fact_28 : fetch m_PJ_fact 28 = some (.getfield 75) := by decide +kernel
theorem F_PJ_fact_31 : fetch m_PJ_fact 31 = some (.iload_n 2) := by decide +kernel
theorem F_PJ_fact_32 : fetch m_PJ_fact 32 = some (.ifCond .eq 12) := by decide +kernel
theorem F_PJ_fact_35 : fetch m_PJ_fact 35 = some (.iload_n 3) := by decide +kernel
theorem F_PJ_fact_36 : fetch m_PJ_fact 36 = some (.iload_n 1) := by decide +kernel
theorem F_PJ_fact_37 : fetch m_PJ_fact 37 = some (.invokestatic 85) := by decide +kernel
theorem F_PJ_fact_40 : fetch m_PJ_fact 40 = some (.ior) := by decide +kernel
theorem F_PJ_fact_41 : fetch m_PJ_fact 41 = some (.goto 4) := by decide +kernel
theorem F_PJ_fact_44 : fetch m_PJ_fact 44 = some (.iload_n 3) := by decide +kernel
theorem F_PJ_fact_45 : fetch m_PJ_fact 45 = some (.putfield 79) := by decide +kernel
theorem F_PJ_fact_48 : fetch m_PJ_fact 48 = some (.return_) := by decide +kernel
theorem F_PJ_checkIndex_0 : fetch m_PJ_checkIndex 0 = some (.iload_n 0) := by decide +kernel
theorem F_PJ_checkIndex_1 : fetch m_PJ_checkIndex 1 = some (.ifCond .lt 8) := by decide +kernel
theorem F_PJ_checkIndex_4 : fetch m_PJ_checkIndex 4 = some (.iload_n 0) := by decide +kernel
theorem F_PJ_checkIndex_5 : fetch m_PJ_checkIndex 5 = some (.iload_n 1) := by decide +kernel
theorem F_PJ_checkIndex_6 : fetch m_PJ_checkIndex 6 = some (.if_icmp .lt 11) := by decide +kernel
theorem F_PJ_checkIndex_9 : fetch m_PJ_checkIndex 9 = some (.new 235) := by decide +kernel
theorem F_PJ_checkIndex_12 : fetch m_PJ_checkIndex 12 = some (.dup) := by decide +kernel
theorem F_PJ_checkIndex_13 : fetch m_PJ_checkIndex 13 = some (.invokespecial 237) := by decide +kernel
theorem F_PJ_checkIndex_16 : fetch m_PJ_checkIndex 16 = some (.athrow) := by decide +kernel
theorem F_PJ_checkIndex_17 : fetch m_PJ_checkIndex 17 = some (.return_) := by decide +kernel
theorem F_PJ_factBit_0 : fetch m_PJ_factBit 0 = some (.iconst 1) := by decide +kernel
theorem F_PJ_factBit_1 : fetch m_PJ_factBit 1 = some (.iload_n 0) := by decide +kernel
theorem F_PJ_factBit_2 : fetch m_PJ_factBit 2 = some (.ishl) := by decide +kernel
theorem F_PJ_factBit_3 : fetch m_PJ_factBit 3 = some (.ireturn) := by decide +kernel
theorem F_PJ_number_0 : fetch m_PJ_number 0 = some (.iload_n 1) := by decide +kernel
theorem F_PJ_number_1 : fetch m_PJ_number 1 = some (.bipush 8) := by decide +kernel
theorem F_PJ_number_3 : fetch m_PJ_number 3 = some (.invokestatic 71) := by decide +kernel
theorem F_PJ_number_6 : fetch m_PJ_number 6 = some (.aload_n 0) := by decide +kernel
theorem F_PJ_number_7 : fetch m_PJ_number 7 = some (.getfield 21) := by decide +kernel
theorem F_PJ_number_10 : fetch m_PJ_number 10 = some (.getfield 75) := by decide +kernel
theorem F_PJ_number_13 : fetch m_PJ_number 13 = some (.getfield 89) := by decide +kernel
theorem F_PJ_number_16 : fetch m_PJ_number 16 = some (.iload_n 1) := by decide +kernel
theorem F_PJ_number_17 : fetch m_PJ_number 17 = some (.aload_n 0) := by decide +kernel
theorem F_PJ_number_18 : fetch m_PJ_number 18 = some (.getfield 12) := by decide +kernel
theorem F_PJ_number_21 : fetch m_PJ_number 21 = some (.iconst 0) := by decide +kernel
theorem F_PJ_number_22 : fetch m_PJ_number 22 = some (.invokevirtual 67) := by decide +kernel
theorem F_PJ_number_25 : fetch m_PJ_number 25 = some (.return_) := by decide +kernel
theorem F_PJ_wish_0 : fetch m_PJ_wish 0 = some (.iload_n 1) := by decide +kernel
theorem F_PJ_wish_1 : fetch m_PJ_wish 1 = some (.bipush 16) := by decide +kernel
theorem F_PJ_wish_3 : fetch m_PJ_wish 3 = some (.invokestatic 71) := by decide +kernel
theorem F_PJ_wish_6 : fetch m_PJ_wish 6 = some (.iload_n 2) := by decide +kernel
theorem F_PJ_wish_7 : fetch m_PJ_wish 7 = some (.iconst (-1)) := by decide +kernel
theorem F_PJ_wish_8 : fetch m_PJ_wish 8 = some (.iconst 1) := by decide +kernel
theorem F_PJ_wish_9 : fetch m_PJ_wish 9 = some (.invokestatic 92) := by decide +kernel
theorem F_PJ_wish_12 : fetch m_PJ_wish 12 = some (.aload_n 0) := by decide +kernel
theorem F_PJ_wish_13 : fetch m_PJ_wish 13 = some (.getfield 21) := by decide +kernel
theorem F_PJ_wish_16 : fetch m_PJ_wish 16 = some (.iload_n 1) := by decide +kernel
theorem F_PJ_wish_17 : fetch m_PJ_wish 17 = some (.iload_n 2) := by decide +kernel
theorem F_PJ_wish_18 : fetch m_PJ_wish 18 = some (.invokevirtual 95) := by decide +kernel
theorem F_PJ_wish_21 : fetch m_PJ_wish 21 = some (.return_) := by decide +kernel
theorem F_PJ_want_0 : fetch m_PJ_want 0 = some (.iload_n 1) := by decide +kernel
theorem F_PJ_want_1 : fetch m_PJ_want 1 = some (.bipush 8) := by decide +kernel
theorem F_PJ_want_3 : fetch m_PJ_want 3 = some (.invokestatic 71) := by decide +kernel
theorem F_PJ_want_6 : fetch m_PJ_want 6 = some (.iload_n 2) := by decide +kernel
theorem F_PJ_want_7 : fetch m_PJ_want 7 = some (.iconst (-1)) := by decide +kernel
theorem F_PJ_want_8 : fetch m_PJ_want 8 = some (.iconst 4) := by decide +kernel
theorem F_PJ_want_9 : fetch m_PJ_want 9 = some (.invokestatic 92) := by decide +kernel
theorem F_PJ_want_12 : fetch m_PJ_want 12 = some (.aload_n 0) := by decide +kernel
theorem F_PJ_want_13 : fetch m_PJ_want 13 = some (.getfield 21) := by decide +kernel
theorem F_PJ_want_16 : fetch m_PJ_want 16 = some (.getfield 98) := by decide +kernel
theorem F_PJ_want_19 : fetch m_PJ_want 19 = some (.iload_n 1) := by decide +kernel
theorem F_PJ_want_20 : fetch m_PJ_want 20 = some (.iload_n 2) := by decide +kernel
theorem F_PJ_want_21 : fetch m_PJ_want 21 = some (.iastore) := by decide +kernel
theorem F_PJ_want_22 : fetch m_PJ_want 22 = some (.aload_n 0) := by decide +kernel
theorem F_PJ_want_23 : fetch m_PJ_want 23 = some (.getfield 21) := by decide +kernel
theorem F_PJ_want_26 : fetch m_PJ_want 26 = some (.getfield 102) := by decide +kernel
theorem F_PJ_want_29 : fetch m_PJ_want 29 = some (.iload_n 1) := by decide +kernel
theorem F_PJ_want_30 : fetch m_PJ_want 30 = some (.aload_n 0) := by decide +kernel
theorem F_PJ_want_31 : fetch m_PJ_want 31 = some (.getfield 12) := by decide +kernel
theorem F_PJ_want_34 : fetch m_PJ_want 34 = some (.iconst 0) := by decide +kernel
theorem F_PJ_want_35 : fetch m_PJ_want 35 = some (.invokevirtual 67) := by decide +kernel
theorem F_PJ_want_38 : fetch m_PJ_want 38 = some (.return_) := by decide +kernel
theorem F_PJ_action_0 : fetch m_PJ_action 0 = some (.aload_n 0) := by decide +kernel
theorem F_PJ_action_1 : fetch m_PJ_action 1 = some (.getfield 21) := by decide +kernel
theorem F_PJ_action_4 : fetch m_PJ_action 4 = some (.getfield 105) := by decide +kernel
theorem F_PJ_action_7 : fetch m_PJ_action 7 = some (.invokevirtual 109) := by decide +kernel
theorem F_PJ_action_10 : fetch m_PJ_action 10 = some (.bipush 12) := by decide +kernel
theorem F_PJ_action_12 : fetch m_PJ_action 12 = some (.invokestatic 115) := by decide +kernel
theorem F_PJ_action_15 : fetch m_PJ_action 15 = some (.aload_n 0) := by decide +kernel
theorem F_PJ_action_16 : fetch m_PJ_action 16 = some (.getfield 21) := by decide +kernel
theorem F_PJ_action_19 : fetch m_PJ_action 19 = some (.getfield 105) := by decide +kernel
theorem F_PJ_action_22 : fetch m_PJ_action 22 = some (.new 118) := by decide +kernel
theorem F_PJ_action_25 : fetch m_PJ_action 25 = some (.dup) := by decide +kernel
theorem F_PJ_action_26 : fetch m_PJ_action 26 = some (.invokespecial 120) := by decide +kernel
theorem F_PJ_action_29 : fetch m_PJ_action 29 = some (.invokevirtual 121) := by decide +kernel
theorem F_PJ_action_32 : fetch m_PJ_action 32 = some (.pop) := by decide +kernel
theorem F_PJ_action_33 : fetch m_PJ_action 33 = some (.aload_n 0) := by decide +kernel
theorem F_PJ_action_34 : fetch m_PJ_action 34 = some (.getfield 21) := by decide +kernel
theorem F_PJ_action_37 : fetch m_PJ_action 37 = some (.getfield 105) := by decide +kernel
theorem F_PJ_action_40 : fetch m_PJ_action 40 = some (.invokevirtual 109) := by decide +kernel
theorem F_PJ_action_43 : fetch m_PJ_action 43 = some (.iconst 1) := by decide +kernel
theorem F_PJ_action_44 : fetch m_PJ_action 44 = some (.isub) := by decide +kernel
theorem F_PJ_action_45 : fetch m_PJ_action 45 = some (.ireturn) := by decide +kernel
theorem F_PJ_checkRoom_0 : fetch m_PJ_checkRoom 0 = some (.iload_n 0) := by decide +kernel
theorem F_PJ_checkRoom_1 : fetch m_PJ_checkRoom 1 = some (.iload_n 1) := by decide +kernel
theorem F_PJ_checkRoom_2 : fetch m_PJ_checkRoom 2 = some (.if_icmp .lt 11) := by decide +kernel
theorem F_PJ_checkRoom_5 : fetch m_PJ_checkRoom 5 = some (.new 196) := by decide +kernel
theorem F_PJ_checkRoom_8 : fetch m_PJ_checkRoom 8 = some (.dup) := by decide +kernel
theorem F_PJ_checkRoom_9 : fetch m_PJ_checkRoom 9 = some (.invokespecial 198) := by decide +kernel
theorem F_PJ_checkRoom_12 : fetch m_PJ_checkRoom 12 = some (.athrow) := by decide +kernel
theorem F_PJ_checkRoom_13 : fetch m_PJ_checkRoom 13 = some (.return_) := by decide +kernel
theorem F_PJ_need_0 : fetch m_PJ_need 0 = some (.iload_n 1) := by decide +kernel
theorem F_PJ_need_1 : fetch m_PJ_need 1 = some (.aload_n 0) := by decide +kernel
theorem F_PJ_need_2 : fetch m_PJ_need 2 = some (.getfield 21) := by decide +kernel
theorem F_PJ_need_5 : fetch m_PJ_need 5 = some (.getfield 105) := by decide +kernel
theorem F_PJ_need_8 : fetch m_PJ_need 8 = some (.invokevirtual 109) := by decide +kernel
theorem F_PJ_need_11 : fetch m_PJ_need 11 = some (.invokestatic 71) := by decide +kernel
theorem F_PJ_need_14 : fetch m_PJ_need 14 = some (.iload_n 3) := by decide +kernel
theorem F_PJ_need_15 : fetch m_PJ_need 15 = some (.bipush 16) := by decide +kernel
theorem F_PJ_need_17 : fetch m_PJ_need 17 = some (.invokestatic 71) := by decide +kernel
theorem F_PJ_need_20 : fetch m_PJ_need 20 = some (.iload_n 2) := by decide +kernel
theorem F_PJ_need_21 : fetch m_PJ_need 21 = some (.iconst 0) := by decide +kernel
theorem F_PJ_need_22 : fetch m_PJ_need 22 = some (.iconst 2) := by decide +kernel
theorem F_PJ_need_23 : fetch m_PJ_need 23 = some (.invokestatic 92) := by decide +kernel
theorem F_PJ_need_26 : fetch m_PJ_need 26 = some (.aload_n 0) := by decide +kernel
theorem F_PJ_need_27 : fetch m_PJ_need 27 = some (.getfield 21) := by decide +kernel
theorem F_PJ_need_30 : fetch m_PJ_need 30 = some (.getfield 105) := by decide +kernel
theorem F_PJ_need_33 : fetch m_PJ_need 33 = some (.iload_n 1) := by decide +kernel
theorem F_PJ_need_34 : fetch m_PJ_need 34 = some (.invokevirtual 125) := by decide +kernel
theorem F_PJ_need_37 : fetch m_PJ_need 37 = some (.checkcast 118) := by decide +kernel
theorem F_PJ_need_40 : fetch m_PJ_need 40 = some (.astore 5) := by decide +kernel
theorem F_PJ_need_42 : fetch m_PJ_need 42 = some (.aload 5) := by decide +kernel
theorem F_PJ_need_44 : fetch m_PJ_need 44 = some (.getfield 129) := by decide +kernel
theorem F_PJ_need_47 : fetch m_PJ_need 47 = some (.bipush 8) := by decide +kernel
theorem F_PJ_need_49 : fetch m_PJ_need 49 = some (.invokestatic 115) := by decide +kernel
theorem F_PJ_need_52 : fetch m_PJ_need 52 = some (.aload 5) := by decide +kernel
theorem F_PJ_need_54 : fetch m_PJ_need 54 = some (.iload_n 2) := by decide +kernel
theorem F_PJ_need_55 : fetch m_PJ_need 55 = some (.iload_n 3) := by decide +kernel
theorem F_PJ_need_56 : fetch m_PJ_need 56 = some (.iload 4) := by decide +kernel
theorem F_PJ_need_58 : fetch m_PJ_need 58 = some (.invokevirtual 132) := by decide +kernel
theorem F_PJ_need_61 : fetch m_PJ_need 61 = some (.return_) := by decide +kernel
theorem F_PJ_compare_0 : fetch m_PJ_compare 0 = some (.iload_n 1) := by decide +kernel
theorem F_PJ_compare_1 : fetch m_PJ_compare 1 = some (.aload_n 0) := by decide +kernel
theorem F_PJ_compare_2 : fetch m_PJ_compare 2 = some (.getfield 21) := by decide +kernel
theorem F_PJ_compare_5 : fetch m_PJ_compare 5 = some (.getfield 105) := by decide +kernel
theorem F_PJ_compare_8 : fetch m_PJ_compare 8 = some (.invokevirtual 109) := by decide +kernel
theorem F_PJ_compare_11 : fetch m_PJ_compare 11 = some (.invokestatic 71) := by decide +kernel
theorem F_PJ_compare_14 : fetch m_PJ_compare 14 = some (.iload_n 3) := by decide +kernel
theorem F_PJ_compare_15 : fetch m_PJ_compare 15 = some (.bipush 8) := by decide +kernel
theorem F_PJ_compare_17 : fetch m_PJ_compare 17 = some (.invokestatic 71) := by decide +kernel
theorem F_PJ_compare_20 : fetch m_PJ_compare 20 = some (.iload_n 2) := by decide +kernel
theorem F_PJ_compare_21 : fetch m_PJ_compare 21 = some (.iconst 0) := by decide +kernel
theorem F_PJ_compare_22 : fetch m_PJ_compare 22 = some (.iconst 2) := by decide +kernel
theorem F_PJ_compare_23 : fetch m_PJ_compare 23 = some (.invokestatic 92) := by decide +kernel
theorem F_PJ_compare_26 : fetch m_PJ_compare 26 = some (.iload 4) := by decide +kernel
theorem F_PJ_compare_28 : fetch m_PJ_compare 28 = some (.iconst 0) := by decide +kernel
theorem F_PJ_compare_29 : fetch m_PJ_compare 29 = some (.iconst 4) := by decide +kernel
theorem F_PJ_compare_30 : fetch m_PJ_compare 30 = some (.invokestatic 92) := by decide +kernel
theorem F_PJ_compare_33 : fetch m_PJ_compare 33 = some (.aload_n 0) := by decide +kernel
theorem F_PJ_compare_34 : fetch m_PJ_compare 34 = some (.getfield 21) := by decide +kernel
theorem F_PJ_compare_37 : fetch m_PJ_compare 37 = some (.getfield 105) := by decide +kernel
theorem F_PJ_compare_40 : fetch m_PJ_compare 40 = some (.iload_n 1) := by decide +kernel
theorem F_PJ_compare_41 : fetch m_PJ_compare 41 = some (.invokevirtual 125) := by decide +kernel
theorem F_PJ_compare_44 : fetch m_PJ_compare 44 = some (.checkcast 118) := by decide +kernel
theorem F_PJ_compare_47 : fetch m_PJ_compare 47 = some (.astore 5) := by decide +kernel
theorem F_PJ_compare_49 : fetch m_PJ_compare 49 = some (.aload 5) := by decide +kernel
theorem F_PJ_compare_51 : fetch m_PJ_compare 51 = some (.getfield 129) := by decide +kernel
theorem F_PJ_compare_54 : fetch m_PJ_compare 54 = some (.bipush 8) := by decide +kernel
theorem F_PJ_compare_56 : fetch m_PJ_compare 56 = some (.invokestatic 115) := by decide +kernel
theorem F_PJ_compare_59 : fetch m_PJ_compare 59 = some (.aload 5) := by decide +kernel
theorem F_PJ_compare_61 : fetch m_PJ_compare 61 = some (.iload_n 2) := by decide +kernel
theorem F_PJ_compare_62 : fetch m_PJ_compare 62 = some (.iload_n 3) := by decide +kernel
theorem F_PJ_compare_63 : fetch m_PJ_compare 63 = some (.iload 4) := by decide +kernel
theorem F_PJ_compare_65 : fetch m_PJ_compare 65 = some (.aload_n 0) := by decide +kernel
theorem F_PJ_compare_66 : fetch m_PJ_compare 66 = some (.getfield 12) := by decide +kernel
theorem F_PJ_compare_69 : fetch m_PJ_compare 69 = some (.invokevirtual 136) := by decide +kernel
theorem F_PJ_compare_72 : fetch m_PJ_compare 72 = some (.return_) := by decide +kernel
theorem F_PJ_numberBit_0 : fetch m_PJ_numberBit 0 = some (.iconst 1) := by decide +kernel
theorem F_PJ_numberBit_1 : fetch m_PJ_numberBit 1 = some (.bipush 16) := by decide +kernel
theorem F_PJ_numberBit_3 : fetch m_PJ_numberBit 3 = some (.iload_n 0) := by decide +kernel
theorem F_PJ_numberBit_4 : fetch m_PJ_numberBit 4 = some (.iadd) := by decide +kernel
theorem F_PJ_numberBit_5 : fetch m_PJ_numberBit 5 = some (.ishl) := by decide +kernel
theorem F_PJ_numberBit_6 : fetch m_PJ_numberBit 6 = some (.ireturn) := by decide +kernel
theorem F_PJ_make_0 : fetch m_PJ_make 0 = some (.iload_n 1) := by decide +kernel
theorem F_PJ_make_1 : fetch m_PJ_make 1 = some (.aload_n 0) := by decide +kernel
theorem F_PJ_make_2 : fetch m_PJ_make 2 = some (.getfield 21) := by decide +kernel
theorem F_PJ_make_5 : fetch m_PJ_make 5 = some (.getfield 105) := by decide +kernel
theorem F_PJ_make_8 : fetch m_PJ_make 8 = some (.invokevirtual 109) := by decide +kernel
theorem F_PJ_make_11 : fetch m_PJ_make 11 = some (.invokestatic 71) := by decide +kernel
theorem F_PJ_make_14 : fetch m_PJ_make 14 = some (.iload_n 3) := by decide +kernel
theorem F_PJ_make_15 : fetch m_PJ_make 15 = some (.bipush 16) := by decide +kernel
theorem F_PJ_make_17 : fetch m_PJ_make 17 = some (.invokestatic 71) := by decide +kernel
theorem F_PJ_make_20 : fetch m_PJ_make 20 = some (.iload_n 2) := by decide +kernel
theorem F_PJ_make_21 : fetch m_PJ_make 21 = some (.invokestatic 140) := by decide +kernel
theorem F_PJ_make_24 : fetch m_PJ_make 24 = some (.aload_n 0) := by decide +kernel
theorem F_PJ_make_25 : fetch m_PJ_make 25 = some (.getfield 21) := by decide +kernel
theorem F_PJ_make_28 : fetch m_PJ_make 28 = some (.getfield 105) := by decide +kernel
theorem F_PJ_make_31 : fetch m_PJ_make 31 = some (.iload_n 1) := by decide +kernel
theorem F_PJ_make_32 : fetch m_PJ_make 32 = some (.invokevirtual 125) := by decide +kernel
theorem F_PJ_make_35 : fetch m_PJ_make 35 = some (.checkcast 118) := by decide +kernel
theorem F_PJ_make_38 : fetch m_PJ_make 38 = some (.astore 5) := by decide +kernel
theorem F_PJ_make_40 : fetch m_PJ_make 40 = some (.aload 5) := by decide +kernel
theorem F_PJ_make_42 : fetch m_PJ_make 42 = some (.iload_n 2) := by decide +kernel
theorem F_PJ_make_43 : fetch m_PJ_make 43 = some (.iload_n 3) := by decide +kernel
theorem F_PJ_make_44 : fetch m_PJ_make 44 = some (.invokestatic 85) := by decide +kernel
theorem F_PJ_make_47 : fetch m_PJ_make 47 = some (.invokestatic 143) := by decide +kernel
theorem F_PJ_make_50 : fetch m_PJ_make 50 = some (.aload 5) := by decide +kernel
theorem F_PJ_make_52 : fetch m_PJ_make 52 = some (.iload_n 2) := by decide +kernel
theorem F_PJ_make_53 : fetch m_PJ_make 53 = some (.iload_n 3) := by decide +kernel
theorem F_PJ_make_54 : fetch m_PJ_make 54 = some (.iload 4) := by decide +kernel
theorem F_PJ_make_56 : fetch m_PJ_make 56 = some (.invokevirtual 147) := by decide +kernel
theorem F_PJ_make_59 : fetch m_PJ_make 59 = some (.return_) := by decide +kernel
theorem F_PJ_checkTimeOfChange_0 : fetch m_PJ_checkTimeOfChange 0 = some (.iload_n 0) := by decide +kernel
theorem F_PJ_checkTimeOfChange_1 : fetch m_PJ_checkTimeOfChange 1 = some (.ifCond .eq 16) := by decide +kernel
theorem F_PJ_checkTimeOfChange_4 : fetch m_PJ_checkTimeOfChange 4 = some (.iload_n 0) := by decide +kernel
theorem F_PJ_checkTimeOfChange_5 : fetch m_PJ_checkTimeOfChange 5 = some (.iconst 2) := by decide +kernel
theorem F_PJ_checkTimeOfChange_6 : fetch m_PJ_checkTimeOfChange 6 = some (.if_icmp .eq 11) := by decide +kernel
theorem F_PJ_checkTimeOfChange_9 : fetch m_PJ_checkTimeOfChange 9 = some (.new 61) := by decide +kernel
theorem F_PJ_checkTimeOfChange_12 : fetch m_PJ_checkTimeOfChange 12 = some (.dup) := by decide +kernel
theorem F_PJ_checkTimeOfChange_13 : fetch m_PJ_checkTimeOfChange 13 = some (.invokespecial 63) := by decide +kernel
theorem F_PJ_checkTimeOfChange_16 : fetch m_PJ_checkTimeOfChange 16 = some (.athrow) := by decide +kernel
theorem F_PJ_checkTimeOfChange_17 : fetch m_PJ_checkTimeOfChange 17 = some (.return_) := by decide +kernel
theorem F_PJ_checkNewChange_0 : fetch m_PJ_checkNewChange 0 = some (.aload_n 0) := by decide +kernel
theorem F_PJ_checkNewChange_1 : fetch m_PJ_checkNewChange 1 = some (.getfield 289) := by decide +kernel
theorem F_PJ_checkNewChange_4 : fetch m_PJ_checkNewChange 4 = some (.bipush 6) := by decide +kernel
theorem F_PJ_checkNewChange_6 : fetch m_PJ_checkNewChange 6 = some (.invokestatic 115) := by decide +kernel
theorem F_PJ_checkNewChange_9 : fetch m_PJ_checkNewChange 9 = some (.aload_n 0) := by decide +kernel
theorem F_PJ_checkNewChange_10 : fetch m_PJ_checkNewChange 10 = some (.getfield 292) := by decide +kernel
theorem F_PJ_checkNewChange_13 : fetch m_PJ_checkNewChange 13 = some (.iload_n 1) := by decide +kernel
theorem F_PJ_checkNewChange_14 : fetch m_PJ_checkNewChange 14 = some (.iaload) := by decide +kernel
theorem F_PJ_checkNewChange_15 : fetch m_PJ_checkNewChange 15 = some (.iload_n 2) := by decide +kernel
theorem F_PJ_checkNewChange_16 : fetch m_PJ_checkNewChange 16 = some (.iand) := by decide +kernel
theorem F_PJ_checkNewChange_17 : fetch m_PJ_checkNewChange 17 = some (.ifCond .eq 11) := by decide +kernel
theorem F_PJ_checkNewChange_20 : fetch m_PJ_checkNewChange 20 = some (.new 196) := by decide +kernel
theorem F_PJ_checkNewChange_23 : fetch m_PJ_checkNewChange 23 = some (.dup) := by decide +kernel
theorem F_PJ_checkNewChange_24 : fetch m_PJ_checkNewChange 24 = some (.invokespecial 198) := by decide +kernel
theorem F_PJ_checkNewChange_27 : fetch m_PJ_checkNewChange 27 = some (.athrow) := by decide +kernel
theorem F_PJ_checkNewChange_28 : fetch m_PJ_checkNewChange 28 = some (.return_) := by decide +kernel
theorem F_PJ_change_0 : fetch m_PJ_change 0 = some (.iload_n 1) := by decide +kernel
theorem F_PJ_change_1 : fetch m_PJ_change 1 = some (.aload_n 0) := by decide +kernel
theorem F_PJ_change_2 : fetch m_PJ_change 2 = some (.getfield 21) := by decide +kernel
theorem F_PJ_change_5 : fetch m_PJ_change 5 = some (.getfield 105) := by decide +kernel
theorem F_PJ_change_8 : fetch m_PJ_change 8 = some (.invokevirtual 109) := by decide +kernel
theorem F_PJ_change_11 : fetch m_PJ_change 11 = some (.invokestatic 71) := by decide +kernel
theorem F_PJ_change_14 : fetch m_PJ_change 14 = some (.iload_n 3) := by decide +kernel
theorem F_PJ_change_15 : fetch m_PJ_change 15 = some (.bipush 8) := by decide +kernel
theorem F_PJ_change_17 : fetch m_PJ_change 17 = some (.invokestatic 71) := by decide +kernel
theorem F_PJ_change_20 : fetch m_PJ_change 20 = some (.iload_n 2) := by decide +kernel
theorem F_PJ_change_21 : fetch m_PJ_change 21 = some (.invokestatic 140) := by decide +kernel
theorem F_PJ_change_24 : fetch m_PJ_change 24 = some (.iload 4) := by decide +kernel
theorem F_PJ_change_26 : fetch m_PJ_change 26 = some (.iconst 0) := by decide +kernel
theorem F_PJ_change_27 : fetch m_PJ_change 27 = some (.iconst 3) := by decide +kernel
theorem F_PJ_change_28 : fetch m_PJ_change 28 = some (.invokestatic 92) := by decide +kernel
theorem F_PJ_change_31 : fetch m_PJ_change 31 = some (.aload_n 0) := by decide +kernel
theorem F_PJ_change_32 : fetch m_PJ_change 32 = some (.getfield 21) := by decide +kernel
theorem F_PJ_change_35 : fetch m_PJ_change 35 = some (.getfield 105) := by decide +kernel
theorem F_PJ_change_38 : fetch m_PJ_change 38 = some (.iload_n 1) := by decide +kernel
theorem F_PJ_change_39 : fetch m_PJ_change 39 = some (.invokevirtual 125) := by decide +kernel
theorem F_PJ_change_42 : fetch m_PJ_change 42 = some (.checkcast 118) := by decide +kernel
theorem F_PJ_change_45 : fetch m_PJ_change 45 = some (.astore 5) := by decide +kernel
theorem F_PJ_change_47 : fetch m_PJ_change 47 = some (.aload 5) := by decide +kernel
theorem F_PJ_change_49 : fetch m_PJ_change 49 = some (.iload_n 2) := by decide +kernel
theorem F_PJ_change_50 : fetch m_PJ_change 50 = some (.iload_n 3) := by decide +kernel
theorem F_PJ_change_51 : fetch m_PJ_change 51 = some (.invokestatic 150) := by decide +kernel
theorem F_PJ_change_54 : fetch m_PJ_change 54 = some (.invokestatic 143) := by decide +kernel
theorem F_PJ_change_57 : fetch m_PJ_change 57 = some (.aload 5) := by decide +kernel
theorem F_PJ_change_59 : fetch m_PJ_change 59 = some (.iload_n 2) := by decide +kernel
theorem F_PJ_change_60 : fetch m_PJ_change 60 = some (.iload_n 3) := by decide +kernel
theorem F_PJ_change_61 : fetch m_PJ_change 61 = some (.iload 4) := by decide +kernel
theorem F_PJ_change_63 : fetch m_PJ_change 63 = some (.aload_n 0) := by decide +kernel
theorem F_PJ_change_64 : fetch m_PJ_change 64 = some (.getfield 12) := by decide +kernel
theorem F_PJ_change_67 : fetch m_PJ_change 67 = some (.invokevirtual 153) := by decide +kernel
theorem F_PJ_change_70 : fetch m_PJ_change 70 = some (.return_) := by decide +kernel
theorem F_PJ_last_0 : fetch m_PJ_last 0 = some (.iload_n 1) := by decide +kernel
theorem F_PJ_last_1 : fetch m_PJ_last 1 = some (.aload_n 0) := by decide +kernel
theorem F_PJ_last_2 : fetch m_PJ_last 2 = some (.getfield 21) := by decide +kernel
theorem F_PJ_last_5 : fetch m_PJ_last 5 = some (.getfield 105) := by decide +kernel
theorem F_PJ_last_8 : fetch m_PJ_last 8 = some (.invokevirtual 109) := by decide +kernel
theorem F_PJ_last_11 : fetch m_PJ_last 11 = some (.invokestatic 71) := by decide +kernel
theorem F_PJ_last_14 : fetch m_PJ_last 14 = some (.iload_n 3) := by decide +kernel
theorem F_PJ_last_15 : fetch m_PJ_last 15 = some (.iconst (-1)) := by decide +kernel
theorem F_PJ_last_16 : fetch m_PJ_last 16 = some (.if_icmp .eq 15) := by decide +kernel
theorem F_PJ_last_19 : fetch m_PJ_last 19 = some (.iload_n 3) := by decide +kernel
theorem F_PJ_last_20 : fetch m_PJ_last 20 = some (.bipush (-2)) := by decide +kernel
theorem F_PJ_last_22 : fetch m_PJ_last 22 = some (.if_icmp .eq 9) := by decide +kernel
theorem F_PJ_last_25 : fetch m_PJ_last 25 = some (.iload_n 3) := by decide +kernel
theorem F_PJ_last_26 : fetch m_PJ_last 26 = some (.bipush 8) := by decide +kernel
theorem F_PJ_last_28 : fetch m_PJ_last 28 = some (.invokestatic 71) := by decide +kernel
theorem F_PJ_last_31 : fetch m_PJ_last 31 = some (.iload_n 2) := by decide +kernel
theorem F_PJ_last_32 : fetch m_PJ_last 32 = some (.iconst 0) := by decide +kernel
theorem F_PJ_last_33 : fetch m_PJ_last 33 = some (.iconst 1) := by decide +kernel
theorem F_PJ_last_34 : fetch m_PJ_last 34 = some (.invokestatic 92) := by decide +kernel
theorem F_PJ_last_37 : fetch m_PJ_last 37 = some (.aload_n 0) := by decide +kernel
theorem F_PJ_last_38 : fetch m_PJ_last 38 = some (.getfield 21) := by decide +kernel
theorem F_PJ_last_41 : fetch m_PJ_last 41 = some (.getfield 105) := by decide +kernel
theorem F_PJ_last_44 : fetch m_PJ_last 44 = some (.iload_n 1) := by decide +kernel
theorem F_PJ_last_45 : fetch m_PJ_last 45 = some (.invokevirtual 125) := by decide +kernel
theorem F_PJ_last_48 : fetch m_PJ_last 48 = some (.checkcast 118) := by decide +kernel
theorem F_PJ_last_51 : fetch m_PJ_last 51 = some (.iload_n 2) := by decide +kernel
theorem F_PJ_last_52 : fetch m_PJ_last 52 = some (.iload_n 3) := by decide +kernel
theorem F_PJ_last_53 : fetch m_PJ_last 53 = some (.aload_n 0) := by decide +kernel
theorem F_PJ_last_54 : fetch m_PJ_last 54 = some (.getfield 12) := by decide +kernel
theorem F_PJ_last_57 : fetch m_PJ_last 57 = some (.invokevirtual 156) := by decide +kernel
theorem F_PJ_last_60 : fetch m_PJ_last 60 = some (.return_) := by decide +kernel
theorem F_PJ_step_0 : fetch m_PJ_step 0 = some (.iload_n 1) := by decide +kernel
theorem F_PJ_step_1 : fetch m_PJ_step 1 = some (.aload_n 0) := by decide +kernel
theorem F_PJ_step_2 : fetch m_PJ_step 2 = some (.getfield 21) := by decide +kernel
theorem F_PJ_step_5 : fetch m_PJ_step 5 = some (.getfield 105) := by decide +kernel
theorem F_PJ_step_8 : fetch m_PJ_step 8 = some (.invokevirtual 109) := by decide +kernel
theorem F_PJ_step_11 : fetch m_PJ_step 11 = some (.invokestatic 71) := by decide +kernel
theorem F_PJ_step_14 : fetch m_PJ_step 14 = some (.aload_n 0) := by decide +kernel
theorem F_PJ_step_15 : fetch m_PJ_step 15 = some (.getfield 12) := by decide +kernel
theorem F_PJ_step_18 : fetch m_PJ_step 18 = some (.getfield 57) := by decide +kernel
theorem F_PJ_step_21 : fetch m_PJ_step 21 = some (.iconst 1) := by decide +kernel
theorem F_PJ_step_22 : fetch m_PJ_step 22 = some (.laload) := by decide +kernel
theorem F_PJ_step_23 : fetch m_PJ_step 23 = some (.lconst 0) := by decide +kernel
theorem F_PJ_step_24 : fetch m_PJ_step 24 = some (.lcmp) := by decide +kernel
theorem F_PJ_step_25 : fetch m_PJ_step 25 = some (.ifCond .lt 17) := by decide +kernel
theorem F_PJ_step_28 : fetch m_PJ_step 28 = some (.aload_n 0) := by decide +kernel
theorem F_PJ_step_29 : fetch m_PJ_step 29 = some (.getfield 12) := by decide +kernel
theorem F_PJ_step_32 : fetch m_PJ_step 32 = some (.getfield 57) := by decide +kernel
theorem F_PJ_step_35 : fetch m_PJ_step 35 = some (.iconst 0) := by decide +kernel
theorem F_PJ_step_36 : fetch m_PJ_step 36 = some (.laload) := by decide +kernel
theorem F_PJ_step_37 : fetch m_PJ_step 37 = some (.lconst 0) := by decide +kernel
theorem F_PJ_step_38 : fetch m_PJ_step 38 = some (.lcmp) := by decide +kernel
theorem F_PJ_step_39 : fetch m_PJ_step 39 = some (.ifCond .gt 11) := by decide +kernel
theorem F_PJ_step_42 : fetch m_PJ_step 42 = some (.new 61) := by decide +kernel
theorem F_PJ_step_45 : fetch m_PJ_step 45 = some (.dup) := by decide +kernel
theorem F_PJ_step_46 : fetch m_PJ_step 46 = some (.invokespecial 63) := by decide +kernel
theorem F_PJ_step_49 : fetch m_PJ_step 49 = some (.athrow) := by decide +kernel
theorem F_PJ_step_50 : fetch m_PJ_step 50 = some (.aload_n 0) := by decide +kernel
theorem F_PJ_step_51 : fetch m_PJ_step 51 = some (.getfield 28) := by decide +kernel
theorem F_PJ_step_54 : fetch m_PJ_step 54 = some (.getfield 160) := by decide +kernel
theorem F_PJ_step_57 : fetch m_PJ_step 57 = some (.bipush 12) := by decide +kernel
theorem F_PJ_step_59 : fetch m_PJ_step 59 = some (.invokestatic 115) := by decide +kernel
theorem F_PJ_step_62 : fetch m_PJ_step 62 = some (.aload_n 0) := by decide +kernel
theorem F_PJ_step_63 : fetch m_PJ_step 63 = some (.getfield 28) := by decide +kernel
theorem F_PJ_step_66 : fetch m_PJ_step 66 = some (.getfield 163) := by decide +kernel
theorem F_PJ_step_69 : fetch m_PJ_step 69 = some (.aload_n 0) := by decide +kernel
theorem F_PJ_step_70 : fetch m_PJ_step 70 = some (.getfield 28) := by decide +kernel
theorem F_PJ_step_73 : fetch m_PJ_step 73 = some (.getfield 160) := by decide +kernel
theorem F_PJ_step_76 : fetch m_PJ_step 76 = some (.aload_n 0) := by decide +kernel
theorem F_PJ_step_77 : fetch m_PJ_step 77 = some (.getfield 12) := by decide +kernel
theorem F_PJ_step_80 : fetch m_PJ_step 80 = some (.iconst 1) := by decide +kernel
theorem F_PJ_step_81 : fetch m_PJ_step 81 = some (.invokevirtual 67) := by decide +kernel
theorem F_PJ_step_84 : fetch m_PJ_step 84 = some (.aload_n 0) := by decide +kernel
theorem F_PJ_step_85 : fetch m_PJ_step 85 = some (.getfield 28) := by decide +kernel
theorem F_PJ_step_88 : fetch m_PJ_step 88 = some (.getfield 166) := by decide +kernel
theorem F_PJ_step_91 : fetch m_PJ_step 91 = some (.aload_n 0) := by decide +kernel
theorem F_PJ_step_92 : fetch m_PJ_step 92 = some (.getfield 28) := by decide +kernel
theorem F_PJ_step_95 : fetch m_PJ_step 95 = some (.getfield 160) := by decide +kernel
theorem F_PJ_step_98 : fetch m_PJ_step 98 = some (.aload_n 0) := by decide +kernel
theorem F_PJ_step_99 : fetch m_PJ_step 99 = some (.getfield 12) := by decide +kernel
theorem F_PJ_step_102 : fetch m_PJ_step 102 = some (.iconst 0) := by decide +kernel
theorem F_PJ_step_103 : fetch m_PJ_step 103 = some (.invokevirtual 67) := by decide +kernel
theorem F_PJ_step_106 : fetch m_PJ_step 106 = some (.aload_n 0) := by decide +kernel
theorem F_PJ_step_107 : fetch m_PJ_step 107 = some (.getfield 28) := by decide +kernel
theorem F_PJ_step_110 : fetch m_PJ_step 110 = some (.iload_n 1) := by decide +kernel
theorem F_PJ_step_111 : fetch m_PJ_step 111 = some (.invokevirtual 169) := by decide +kernel
theorem F_PJ_step_114 : fetch m_PJ_step 114 = some (.ireturn) := by decide +kernel
theorem F_PJ_push_0 : fetch m_PJ_push 0 = some (.iload_n 1) := by decide +kernel
theorem F_PJ_push_1 : fetch m_PJ_push 1 = some (.iconst 2) := by decide +kernel
theorem F_PJ_push_2 : fetch m_PJ_push 2 = some (.aload_n 0) := by decide +kernel
theorem F_PJ_push_3 : fetch m_PJ_push 3 = some (.getfield 28) := by decide +kernel
theorem F_PJ_push_6 : fetch m_PJ_push 6 = some (.getfield 160) := by decide +kernel
theorem F_PJ_push_9 : fetch m_PJ_push 9 = some (.imul) := by decide +kernel
theorem F_PJ_push_10 : fetch m_PJ_push 10 = some (.invokestatic 71) := by decide +kernel
theorem F_PJ_push_13 : fetch m_PJ_push 13 = some (.aload_n 0) := by decide +kernel
theorem F_PJ_push_14 : fetch m_PJ_push 14 = some (.getfield 28) := by decide +kernel
theorem F_PJ_push_17 : fetch m_PJ_push 17 = some (.iload_n 1) := by decide +kernel
theorem F_PJ_push_18 : fetch m_PJ_push 18 = some (.invokevirtual 189) := by decide +kernel
theorem F_PJ_push_21 : fetch m_PJ_push 21 = some (.ifCond .ne 23) := by decide +kernel
theorem F_PJ_push_24 : fetch m_PJ_push 24 = some (.iload_n 1) := by decide +kernel
theorem F_PJ_push_25 : fetch m_PJ_push 25 = some (.invokestatic 193) := by decide +kernel
theorem F_PJ_push_28 : fetch m_PJ_push 28 = some (.ifCond .eq 24) := by decide +kernel
theorem F_PJ_push_31 : fetch m_PJ_push 31 = some (.aload_n 0) := by decide +kernel
theorem F_PJ_push_32 : fetch m_PJ_push 32 = some (.getfield 28) := by decide +kernel
theorem F_PJ_push_35 : fetch m_PJ_push 35 = some (.iload_n 1) := by decide +kernel
theorem F_PJ_push_36 : fetch m_PJ_push 36 = some (.iconst 1) := by decide +kernel
theorem F_PJ_push_37 : fetch m_PJ_push 37 = some (.isub) := by decide +kernel
theorem F_PJ_push_38 : fetch m_PJ_push 38 = some (.invokevirtual 189) := by decide +kernel
theorem F_PJ_push_41 : fetch m_PJ_push 41 = some (.ifCond .ne 11) := by decide +kernel
theorem F_PJ_push_44 : fetch m_PJ_push 44 = some (.new 196) := by decide +kernel
theorem F_PJ_push_47 : fetch m_PJ_push 47 = some (.dup) := by decide +kernel
theorem F_PJ_push_48 : fetch m_PJ_push 48 = some (.invokespecial 198) := by decide +kernel
theorem F_PJ_push_51 : fetch m_PJ_push 51 = some (.athrow) := by decide +kernel
theorem F_PJ_push_52 : fetch m_PJ_push 52 = some (.aload_n 0) := by decide +kernel
theorem F_PJ_push_53 : fetch m_PJ_push 53 = some (.getfield 28) := by decide +kernel
theorem F_PJ_push_56 : fetch m_PJ_push 56 = some (.iload_n 1) := by decide +kernel
theorem F_PJ_push_57 : fetch m_PJ_push 57 = some (.invokevirtual 199) := by decide +kernel
theorem F_PJ_push_60 : fetch m_PJ_push 60 = some (.return_) := by decide +kernel
theorem F_PJ_arrange_0 : fetch m_PJ_arrange 0 = some (.aload_n 0) := by decide +kernel
theorem F_PJ_arrange_1 : fetch m_PJ_arrange 1 = some (.getfield 28) := by decide +kernel
theorem F_PJ_arrange_4 : fetch m_PJ_arrange 4 = some (.getfield 202) := by decide +kernel
theorem F_PJ_arrange_7 : fetch m_PJ_arrange 7 = some (.iconst 2) := by decide +kernel
theorem F_PJ_arrange_8 : fetch m_PJ_arrange 8 = some (.aload_n 0) := by decide +kernel
theorem F_PJ_arrange_9 : fetch m_PJ_arrange 9 = some (.getfield 28) := by decide +kernel
theorem F_PJ_arrange_12 : fetch m_PJ_arrange 12 = some (.getfield 160) := by decide +kernel
theorem F_PJ_arrange_15 : fetch m_PJ_arrange 15 = some (.imul) := by decide +kernel
theorem F_PJ_arrange_16 : fetch m_PJ_arrange 16 = some (.if_icmp .ge 11) := by decide +kernel
theorem F_PJ_arrange_19 : fetch m_PJ_arrange 19 = some (.new 196) := by decide +kernel
theorem F_PJ_arrange_22 : fetch m_PJ_arrange 22 = some (.dup) := by decide +kernel
theorem F_PJ_arrange_23 : fetch m_PJ_arrange 23 = some (.invokespecial 198) := by decide +kernel
theorem F_PJ_arrange_26 : fetch m_PJ_arrange 26 = some (.athrow) := by decide +kernel
theorem F_PJ_arrange_27 : fetch m_PJ_arrange 27 = some (.aload_n 0) := by decide +kernel
theorem F_PJ_arrange_28 : fetch m_PJ_arrange 28 = some (.getfield 49) := by decide +kernel
theorem F_PJ_arrange_31 : fetch m_PJ_arrange 31 = some (.aload_n 0) := by decide +kernel
theorem F_PJ_arrange_32 : fetch m_PJ_arrange 32 = some (.getfield 21) := by decide +kernel
theorem F_PJ_arrange_35 : fetch m_PJ_arrange 35 = some (.aload_n 0) := by decide +kernel
theorem F_PJ_arrange_36 : fetch m_PJ_arrange 36 = some (.getfield 28) := by decide +kernel
theorem F_PJ_arrange_39 : fetch m_PJ_arrange 39 = some (.invokevirtual 208) := by decide +kernel
theorem F_PJ_arrange_42 : fetch m_PJ_arrange 42 = some (.istore_n 1) := by decide +kernel
theorem F_PJ_arrange_43 : fetch m_PJ_arrange 43 = some (.iload_n 1) := by decide +kernel
theorem F_PJ_arrange_44 : fetch m_PJ_arrange 44 = some (.ifCond .ne 14) := by decide +kernel
theorem F_PJ_arrange_47 : fetch m_PJ_arrange 47 = some (.aload_n 0) := by decide +kernel
theorem F_PJ_arrange_48 : fetch m_PJ_arrange 48 = some (.getfield 49) := by decide +kernel
theorem F_PJ_arrange_51 : fetch m_PJ_arrange 51 = some (.aload_n 0) := by decide +kernel
theorem F_PJ_arrange_52 : fetch m_PJ_arrange 52 = some (.getfield 28) := by decide +kernel
theorem F_PJ_arrange_55 : fetch m_PJ_arrange 55 = some (.invokevirtual 209) := by decide +kernel
theorem F_PJ_arrange_58 : fetch m_PJ_arrange 58 = some (.aload_n 0) := by decide +kernel
theorem F_PJ_arrange_59 : fetch m_PJ_arrange 59 = some (.getfield 35) := by decide +kernel
theorem F_PJ_arrange_62 : fetch m_PJ_arrange 62 = some (.iload_n 1) := by decide +kernel
theorem F_PJ_arrange_63 : fetch m_PJ_arrange 63 = some (.aload_n 0) := by decide +kernel
theorem F_PJ_arrange_64 : fetch m_PJ_arrange 64 = some (.getfield 49) := by decide +kernel
theorem F_PJ_arrange_67 : fetch m_PJ_arrange 67 = some (.getfield 213) := by decide +kernel
theorem F_PJ_arrange_70 : fetch m_PJ_arrange 70 = some (.aload_n 0) := by decide +kernel
theorem F_PJ_arrange_71 : fetch m_PJ_arrange 71 = some (.getfield 49) := by decide +kernel
theorem F_PJ_arrange_74 : fetch m_PJ_arrange 74 = some (.iload_n 1) := by decide +kernel
theorem F_PJ_arrange_75 : fetch m_PJ_arrange 75 = some (.invokevirtual 214) := by decide +kernel
theorem F_PJ_arrange_78 : fetch m_PJ_arrange 78 = some (.invokevirtual 185) := by decide +kernel
theorem F_PJ_arrange_81 : fetch m_PJ_arrange 81 = some (.iload_n 1) := by decide +kernel
theorem F_PJ_arrange_82 : fetch m_PJ_arrange 82 = some (.ireturn) := by decide +kernel
theorem F_PJ_seek_0 : fetch m_PJ_seek 0 = some (.iload_n 1) := by decide +kernel
theorem F_PJ_seek_1 : fetch m_PJ_seek 1 = some (.iconst 0) := by decide +kernel
theorem F_PJ_seek_2 : fetch m_PJ_seek 2 = some (.bipush 6) := by decide +kernel
theorem F_PJ_seek_4 : fetch m_PJ_seek 4 = some (.invokestatic 92) := by decide +kernel
theorem F_PJ_seek_7 : fetch m_PJ_seek 7 = some (.iconst 0) := by decide +kernel
theorem F_PJ_seek_8 : fetch m_PJ_seek 8 = some (.istore_n 2) := by decide +kernel
theorem F_PJ_seek_9 : fetch m_PJ_seek 9 = some (.iload_n 2) := by decide +kernel
theorem F_PJ_seek_10 : fetch m_PJ_seek 10 = some (.iload_n 1) := by decide +kernel
theorem F_PJ_seek_11 : fetch m_PJ_seek 11 = some (.if_icmp .gt 62) := by decide +kernel
theorem F_PJ_seek_14 : fetch m_PJ_seek 14 = some (.aload_n 0) := by decide +kernel
theorem F_PJ_seek_15 : fetch m_PJ_seek 15 = some (.getfield 49) := by decide +kernel
theorem F_PJ_seek_18 : fetch m_PJ_seek 18 = some (.aload_n 0) := by decide +kernel
theorem F_PJ_seek_19 : fetch m_PJ_seek 19 = some (.getfield 21) := by decide +kernel
theorem F_PJ_seek_22 : fetch m_PJ_seek 22 = some (.getfield 75) := by decide +kernel
theorem F_PJ_seek_25 : fetch m_PJ_seek 25 = some (.invokevirtual 218) := by decide +kernel
theorem F_PJ_seek_28 : fetch m_PJ_seek 28 = some (.aload_n 0) := by decide +kernel
theorem F_PJ_seek_29 : fetch m_PJ_seek 29 = some (.getfield 21) := by decide +kernel
theorem F_PJ_seek_32 : fetch m_PJ_seek 32 = some (.aload_n 0) := by decide +kernel
theorem F_PJ_seek_33 : fetch m_PJ_seek 33 = some (.getfield 49) := by decide +kernel
theorem F_PJ_seek_36 : fetch m_PJ_seek 36 = some (.iload_n 2) := by decide +kernel
theorem F_PJ_seek_37 : fetch m_PJ_seek 37 = some (.invokestatic 222) := by decide +kernel
theorem F_PJ_seek_40 : fetch m_PJ_seek 40 = some (.ifCond .eq 27) := by decide +kernel
theorem F_PJ_seek_43 : fetch m_PJ_seek 43 = some (.aload_n 0) := by decide +kernel
theorem F_PJ_seek_44 : fetch m_PJ_seek 44 = some (.getfield 49) := by decide +kernel
theorem F_PJ_seek_47 : fetch m_PJ_seek 47 = some (.aload_n 0) := by decide +kernel
theorem F_PJ_seek_48 : fetch m_PJ_seek 48 = some (.getfield 28) := by decide +kernel
theorem F_PJ_seek_51 : fetch m_PJ_seek 51 = some (.invokevirtual 226) := by decide +kernel
theorem F_PJ_seek_54 : fetch m_PJ_seek 54 = some (.aload_n 0) := by decide +kernel
theorem F_PJ_seek_55 : fetch m_PJ_seek 55 = some (.getfield 49) := by decide +kernel
theorem F_PJ_seek_58 : fetch m_PJ_seek 58 = some (.aload_n 0) := by decide +kernel
theorem F_PJ_seek_59 : fetch m_PJ_seek 59 = some (.getfield 28) := by decide +kernel
theorem F_PJ_seek_62 : fetch m_PJ_seek 62 = some (.invokevirtual 209) := by decide +kernel
theorem F_PJ_seek_65 : fetch m_PJ_seek 65 = some (.iload_n 2) := by decide +kernel
theorem F_PJ_seek_66 : fetch m_PJ_seek 66 = some (.ireturn) := by decide +kernel
theorem F_PJ_seek_67 : fetch m_PJ_seek 67 = some (.iinc 2 2) := by decide +kernel
theorem F_PJ_seek_70 : fetch m_PJ_seek 70 = some (.goto (-61)) := by decide +kernel
theorem F_PJ_seek_73 : fetch m_PJ_seek 73 = some (.iconst (-1)) := by decide +kernel
theorem F_PJ_seek_74 : fetch m_PJ_seek 74 = some (.ireturn) := by decide +kernel
theorem F_PJ_completes_0 : fetch m_PJ_completes 0 = some (.iload_n 2) := by decide +kernel
theorem F_PJ_completes_1 : fetch m_PJ_completes 1 = some (.ifCond .gt 17) := by decide +kernel
theorem F_PJ_completes_4 : fetch m_PJ_completes 4 = some (.aload_n 1) := by decide +kernel
theorem F_PJ_completes_5 : fetch m_PJ_completes 5 = some (.aload_n 0) := by decide +kernel
theorem F_PJ_completes_6 : fetch m_PJ_completes 6 = some (.invokevirtual 268) := by decide +kernel
theorem F_PJ_completes_9 : fetch m_PJ_completes 9 = some (.ifCond .ne 7) := by decide +kernel
theorem F_PJ_completes_12 : fetch m_PJ_completes 12 = some (.iconst 1) := by decide +kernel
theorem F_PJ_completes_13 : fetch m_PJ_completes 13 = some (.goto 4) := by decide +kernel
theorem F_PJ_completes_16 : fetch m_PJ_completes 16 = some (.iconst 0) := by decide +kernel
theorem F_PJ_completes_17 : fetch m_PJ_completes 17 = some (.ireturn) := by decide +kernel
theorem F_PJ_completes_18 : fetch m_PJ_completes 18 = some (.aload_n 1) := by decide +kernel
theorem F_PJ_completes_19 : fetch m_PJ_completes 19 = some (.getfield 272) := by decide +kernel
theorem F_PJ_completes_22 : fetch m_PJ_completes 22 = some (.istore_n 3) := by decide +kernel
theorem F_PJ_completes_23 : fetch m_PJ_completes 23 = some (.aload_n 1) := by decide +kernel
theorem F_PJ_completes_24 : fetch m_PJ_completes 24 = some (.invokevirtual 275) := by decide +kernel
theorem F_PJ_completes_27 : fetch m_PJ_completes 27 = some (.iconst 2) := by decide +kernel
theorem F_PJ_completes_28 : fetch m_PJ_completes 28 = some (.iadd) := by decide +kernel
theorem F_PJ_completes_29 : fetch m_PJ_completes 29 = some (.iload_n 2) := by decide +kernel
theorem F_PJ_completes_30 : fetch m_PJ_completes 30 = some (.if_icmp .gt 7) := by decide +kernel
theorem F_PJ_completes_33 : fetch m_PJ_completes 33 = some (.iconst 1) := by decide +kernel
theorem F_PJ_completes_34 : fetch m_PJ_completes 34 = some (.goto 4) := by decide +kernel
theorem F_PJ_completes_37 : fetch m_PJ_completes 37 = some (.iconst 0) := by decide +kernel
theorem F_PJ_completes_38 : fetch m_PJ_completes 38 = some (.istore 4) := by decide +kernel
theorem F_PJ_completes_40 : fetch m_PJ_completes 40 = some (.iload 4) := by decide +kernel
theorem F_PJ_completes_42 : fetch m_PJ_completes 42 = some (.ifCond .eq 7) := by decide +kernel
theorem F_PJ_completes_45 : fetch m_PJ_completes 45 = some (.iconst 0) := by decide +kernel
theorem F_PJ_completes_46 : fetch m_PJ_completes 46 = some (.goto 5) := by decide +kernel
theorem F_PJ_completes_49 : fetch m_PJ_completes 49 = some (.bipush 12) := by decide +kernel
theorem F_PJ_completes_51 : fetch m_PJ_completes 51 = some (.istore 5) := by decide +kernel
theorem F_PJ_completes_53 : fetch m_PJ_completes 53 = some (.iload 5) := by decide +kernel
theorem F_PJ_completes_55 : fetch m_PJ_completes 55 = some (.bipush 12) := by decide +kernel
theorem F_PJ_completes_57 : fetch m_PJ_completes 57 = some (.iload_n 3) := by decide +kernel
theorem F_PJ_completes_58 : fetch m_PJ_completes 58 = some (.iadd) := by decide +kernel
theorem F_PJ_completes_59 : fetch m_PJ_completes 59 = some (.if_icmp .ge 136) := by decide +kernel
theorem F_PJ_completes_62 : fetch m_PJ_completes 62 = some (.iload 5) := by decide +kernel
theorem F_PJ_completes_64 : fetch m_PJ_completes 64 = some (.bipush 12) := by decide +kernel
theorem F_PJ_completes_66 : fetch m_PJ_completes 66 = some (.if_icmp .ge 7) := by decide +kernel
theorem F_PJ_completes_69 : fetch m_PJ_completes 69 = some (.iconst 1) := by decide +kernel
theorem F_PJ_completes_70 : fetch m_PJ_completes 70 = some (.goto 4) := by decide +kernel
theorem F_PJ_completes_73 : fetch m_PJ_completes 73 = some (.iconst 0) := by decide +kernel
theorem F_PJ_completes_74 : fetch m_PJ_completes 74 = some (.istore 6) := by decide +kernel
theorem F_PJ_completes_76 : fetch m_PJ_completes 76 = some (.iload 6) := by decide +kernel
theorem F_PJ_completes_78 : fetch m_PJ_completes 78 = some (.ifCond .eq 7) := by decide +kernel
theorem F_PJ_completes_81 : fetch m_PJ_completes 81 = some (.iload_n 3) := by decide +kernel
theorem F_PJ_completes_82 : fetch m_PJ_completes 82 = some (.goto 8) := by decide +kernel
theorem F_PJ_completes_85 : fetch m_PJ_completes 85 = some (.iload 5) := by decide +kernel
theorem F_PJ_completes_87 : fetch m_PJ_completes 87 = some (.bipush 12) := by decide +kernel
theorem F_PJ_completes_89 : fetch m_PJ_completes 89 = some (.isub) := by decide +kernel
theorem F_PJ_completes_90 : fetch m_PJ_completes 90 = some (.istore 7) := by decide +kernel
theorem F_PJ_completes_92 : fetch m_PJ_completes 92 = some (.iload 6) := by decide +kernel
theorem F_PJ_completes_94 : fetch m_PJ_completes 94 = some (.ifCond .eq 18) := by decide +kernel
theorem F_PJ_completes_97 : fetch m_PJ_completes 97 = some (.iload 5) := by decide +kernel
theorem F_PJ_completes_99 : fetch m_PJ_completes 99 = some (.aload_n 0) := by decide +kernel
theorem F_PJ_completes_100 : fetch m_PJ_completes 100 = some (.getfield 105) := by decide +kernel
theorem F_PJ_completes_103 : fetch m_PJ_completes 103 = some (.invokevirtual 109) := by decide +kernel
theorem F_PJ_completes_106 : fetch m_PJ_completes 106 = some (.if_icmp .ge 83) := by decide +kernel
theorem F_PJ_completes_109 : fetch m_PJ_completes 109 = some (.goto 12) := by decide +kernel
theorem F_PJ_completes_112 : fetch m_PJ_completes 112 = some (.aload_n 1) := by decide +kernel
theorem F_PJ_completes_113 : fetch m_PJ_completes 113 = some (.iload 7) := by decide +kernel
theorem F_PJ_completes_115 : fetch m_PJ_completes 115 = some (.invokevirtual 278) := by decide +kernel
theorem F_PJ_completes_118 : fetch m_PJ_completes 118 = some (.ifCond .eq 71) := by decide +kernel
theorem F_PJ_completes_121 : fetch m_PJ_completes 121 = some (.iload 6) := by decide +kernel
theorem F_PJ_completes_123 : fetch m_PJ_completes 123 = some (.ifCond .eq 10) := by decide +kernel
theorem F_PJ_completes_126 : fetch m_PJ_completes 126 = some (.iconst 2) := by decide +kernel
theorem F_PJ_completes_127 : fetch m_PJ_completes 127 = some (.iload 7) := by decide +kernel
theorem F_PJ_completes_129 : fetch m_PJ_completes 129 = some (.imul) := by decide +kernel
theorem F_PJ_completes_130 : fetch m_PJ_completes 130 = some (.goto 9) := by decide +kernel
theorem F_PJ_completes_133 : fetch m_PJ_completes 133 = some (.iconst 2) := by decide +kernel
theorem F_PJ_completes_134 : fetch m_PJ_completes 134 = some (.iload 7) := by decide +kernel
theorem F_PJ_completes_136 : fetch m_PJ_completes 136 = some (.imul) := by decide +kernel
theorem F_PJ_completes_137 : fetch m_PJ_completes 137 = some (.iconst 1) := by decide +kernel
theorem F_PJ_completes_138 : fetch m_PJ_completes 138 = some (.iadd) := by decide +kernel
theorem F_PJ_completes_139 : fetch m_PJ_completes 139 = some (.istore 8) := by decide +kernel
theorem F_PJ_completes_141 : fetch m_PJ_completes 141 = some (.iload 6) := by decide +kernel
theorem F_PJ_completes_143 : fetch m_PJ_completes 143 = some (.ifCond .eq 8) := by decide +kernel
theorem F_PJ_completes_146 : fetch m_PJ_completes 146 = some (.iload 5) := by decide +kernel
theorem F_PJ_completes_148 : fetch m_PJ_completes 148 = some (.goto 10) := by decide +kernel
theorem F_PJ_completes_151 : fetch m_PJ_completes 151 = some (.aload_n 1) := by decide +kernel
theorem F_PJ_completes_152 : fetch m_PJ_completes 152 = some (.getfield 281) := by decide +kernel
theorem F_PJ_completes_155 : fetch m_PJ_completes 155 = some (.iload 7) := by decide +kernel
theorem F_PJ_completes_157 : fetch m_PJ_completes 157 = some (.iaload) := by decide +kernel
theorem F_PJ_completes_158 : fetch m_PJ_completes 158 = some (.istore 9) := by decide +kernel
theorem F_PJ_completes_160 : fetch m_PJ_completes 160 = some (.aload_n 1) := by decide +kernel
theorem F_PJ_completes_161 : fetch m_PJ_completes 161 = some (.aload_n 0) := by decide +kernel
theorem F_PJ_completes_162 : fetch m_PJ_completes 162 = some (.iload 8) := by decide +kernel
theorem F_PJ_completes_164 : fetch m_PJ_completes 164 = some (.iload 9) := by decide +kernel
theorem F_PJ_completes_166 : fetch m_PJ_completes 166 = some (.invokevirtual 282) := by decide +kernel
theorem F_PJ_completes_169 : fetch m_PJ_completes 169 = some (.ifCond .ne 20) := by decide +kernel
theorem F_PJ_completes_172 : fetch m_PJ_completes 172 = some (.aload_n 0) := by decide +kernel
theorem F_PJ_completes_173 : fetch m_PJ_completes 173 = some (.aload_n 1) := by decide +kernel
theorem F_PJ_completes_174 : fetch m_PJ_completes 174 = some (.iload_n 2) := by decide +kernel
theorem F_PJ_completes_175 : fetch m_PJ_completes 175 = some (.iconst 1) := by decide +kernel
theorem F_PJ_completes_176 : fetch m_PJ_completes 176 = some (.isub) := by decide +kernel
theorem F_PJ_completes_177 : fetch m_PJ_completes 177 = some (.invokestatic 222) := by decide +kernel
theorem F_PJ_completes_180 : fetch m_PJ_completes 180 = some (.ifCond .eq 5) := by decide +kernel
theorem F_PJ_completes_183 : fetch m_PJ_completes 183 = some (.iconst 1) := by decide +kernel
theorem F_PJ_completes_184 : fetch m_PJ_completes 184 = some (.ireturn) := by decide +kernel
theorem F_PJ_completes_185 : fetch m_PJ_completes 185 = some (.aload_n 1) := by decide +kernel
theorem F_PJ_completes_186 : fetch m_PJ_completes 186 = some (.invokevirtual 286) := by decide +kernel
theorem F_PJ_completes_189 : fetch m_PJ_completes 189 = some (.iinc 5 1) := by decide +kernel
theorem F_PJ_completes_192 : fetch m_PJ_completes 192 = some (.goto (-139)) := by decide +kernel
theorem F_PJ_completes_195 : fetch m_PJ_completes 195 = some (.iconst 0) := by decide +kernel
theorem F_PJ_completes_196 : fetch m_PJ_completes 196 = some (.ireturn) := by decide +kernel
theorem F_PJ_count_0 : fetch m_PJ_count 0 = some (.iload_n 1) := by decide +kernel
theorem F_PJ_count_1 : fetch m_PJ_count 1 = some (.tableswitch 78 0 4 #[35, 43, 51, 62, 70]) := by decide +kernel
theorem F_PJ_count_36 : fetch m_PJ_count 36 = some (.aload_n 0) := by decide +kernel
theorem F_PJ_count_37 : fetch m_PJ_count 37 = some (.getfield 35) := by decide +kernel
theorem F_PJ_count_40 : fetch m_PJ_count 40 = some (.getfield 229) := by decide +kernel
theorem F_PJ_count_43 : fetch m_PJ_count 43 = some (.ireturn) := by decide +kernel
theorem F_PJ_count_44 : fetch m_PJ_count 44 = some (.aload_n 0) := by decide +kernel
theorem F_PJ_count_45 : fetch m_PJ_count 45 = some (.getfield 35) := by decide +kernel
theorem F_PJ_count_48 : fetch m_PJ_count 48 = some (.getfield 232) := by decide +kernel
theorem F_PJ_count_51 : fetch m_PJ_count 51 = some (.ireturn) := by decide +kernel
theorem F_PJ_count_52 : fetch m_PJ_count 52 = some (.aload_n 0) := by decide +kernel
theorem F_PJ_count_53 : fetch m_PJ_count 53 = some (.getfield 21) := by decide +kernel
theorem F_PJ_count_56 : fetch m_PJ_count 56 = some (.getfield 105) := by decide +kernel
theorem F_PJ_count_59 : fetch m_PJ_count 59 = some (.invokevirtual 109) := by decide +kernel
theorem F_PJ_count_62 : fetch m_PJ_count 62 = some (.ireturn) := by decide +kernel
theorem F_PJ_count_63 : fetch m_PJ_count 63 = some (.aload_n 0) := by decide +kernel
theorem F_PJ_count_64 : fetch m_PJ_count 64 = some (.getfield 28) := by decide +kernel
theorem F_PJ_count_67 : fetch m_PJ_count 67 = some (.getfield 160) := by decide +kernel
theorem F_PJ_count_70 : fetch m_PJ_count 70 = some (.ireturn) := by decide +kernel
theorem F_PJ_count_71 : fetch m_PJ_count 71 = some (.aload_n 0) := by decide +kernel
theorem F_PJ_count_72 : fetch m_PJ_count 72 = some (.getfield 28) := by decide +kernel
theorem F_PJ_count_75 : fetch m_PJ_count 75 = some (.getfield 202) := by decide +kernel
theorem F_PJ_count_78 : fetch m_PJ_count 78 = some (.ireturn) := by decide +kernel
theorem F_PJ_count_79 : fetch m_PJ_count 79 = some (.new 235) := by decide +kernel
theorem F_PJ_count_82 : fetch m_PJ_count 82 = some (.dup) := by decide +kernel
theorem F_PJ_count_83 : fetch m_PJ_count 83 = some (.invokespecial 237) := by decide +kernel
theorem F_PJ_count_86 : fetch m_PJ_count 86 = some (.athrow) := by decide +kernel
theorem F_PJ_done_0 : fetch m_PJ_done 0 = some (.iload_n 1) := by decide +kernel
theorem F_PJ_done_1 : fetch m_PJ_done 1 = some (.aload_n 0) := by decide +kernel
theorem F_PJ_done_2 : fetch m_PJ_done 2 = some (.getfield 28) := by decide +kernel
theorem F_PJ_done_5 : fetch m_PJ_done 5 = some (.getfield 160) := by decide +kernel
theorem F_PJ_done_8 : fetch m_PJ_done 8 = some (.invokestatic 71) := by decide +kernel
theorem F_PJ_done_11 : fetch m_PJ_done 11 = some (.aload_n 0) := by decide +kernel
theorem F_PJ_done_12 : fetch m_PJ_done 12 = some (.getfield 28) := by decide +kernel
theorem F_PJ_done_15 : fetch m_PJ_done 15 = some (.getfield 238) := by decide +kernel
theorem F_PJ_done_18 : fetch m_PJ_done 18 = some (.iload_n 1) := by decide +kernel
theorem F_PJ_done_19 : fetch m_PJ_done 19 = some (.iaload) := by decide +kernel
theorem F_PJ_done_20 : fetch m_PJ_done 20 = some (.ireturn) := by decide +kernel
theorem F_PJ_above_0 : fetch m_PJ_above 0 = some (.aload_n 0) := by decide +kernel
theorem F_PJ_above_1 : fetch m_PJ_above 1 = some (.iload_n 1) := by decide +kernel
theorem F_PJ_above_2 : fetch m_PJ_above 2 = some (.iload_n 2) := by decide +kernel
theorem F_PJ_above_3 : fetch m_PJ_above 3 = some (.invokevirtual 244) := by decide +kernel
theorem F_PJ_above_6 : fetch m_PJ_above 6 = some (.getfield 57) := by decide +kernel
theorem F_PJ_above_9 : fetch m_PJ_above 9 = some (.iload_n 2) := by decide +kernel
theorem F_PJ_above_10 : fetch m_PJ_above 10 = some (.laload) := by decide +kernel
theorem F_PJ_above_11 : fetch m_PJ_above 11 = some (.lreturn) := by decide +kernel
theorem F_PJ_rowAskedFor_0 : fetch m_PJ_rowAskedFor 0 = some (.iload_n 1) := by decide +kernel
theorem F_PJ_rowAskedFor_1 : fetch m_PJ_rowAskedFor 1 = some (.iconst 0) := by decide +kernel
theorem F_PJ_rowAskedFor_2 : fetch m_PJ_rowAskedFor 2 = some (.iconst 2) := by decide +kernel
theorem F_PJ_rowAskedFor_3 : fetch m_PJ_rowAskedFor 3 = some (.invokestatic 92) := by decide +kernel
theorem F_PJ_rowAskedFor_6 : fetch m_PJ_rowAskedFor 6 = some (.iload_n 2) := by decide +kernel
theorem F_PJ_rowAskedFor_7 : fetch m_PJ_rowAskedFor 7 = some (.iload_n 1) := by decide +kernel
theorem F_PJ_rowAskedFor_8 : fetch m_PJ_rowAskedFor 8 = some (.iconst 2) := by decide +kernel
theorem F_PJ_rowAskedFor_9 : fetch m_PJ_rowAskedFor 9 = some (.if_icmp .ne 8) := by decide +kernel
theorem F_PJ_rowAskedFor_12 : fetch m_PJ_rowAskedFor 12 = some (.bipush 8) := by decide +kernel
theorem F_PJ_rowAskedFor_14 : fetch m_PJ_rowAskedFor 14 = some (.goto 10) := by decide +kernel
theorem F_PJ_rowAskedFor_17 : fetch m_PJ_rowAskedFor 17 = some (.aload_n 0) := by decide +kernel
theorem F_PJ_rowAskedFor_18 : fetch m_PJ_rowAskedFor 18 = some (.getfield 28) := by decide +kernel
theorem F_PJ_rowAskedFor_21 : fetch m_PJ_rowAskedFor 21 = some (.getfield 160) := by decide +kernel
theorem F_PJ_rowAskedFor_24 : fetch m_PJ_rowAskedFor 24 = some (.invokestatic 71) := by decide +kernel
theorem F_PJ_rowAskedFor_27 : fetch m_PJ_rowAskedFor 27 = some (.iload_n 1) := by decide +kernel
theorem F_PJ_rowAskedFor_28 : fetch m_PJ_rowAskedFor 28 = some (.iconst 2) := by decide +kernel
theorem F_PJ_rowAskedFor_29 : fetch m_PJ_rowAskedFor 29 = some (.if_icmp .ne 11) := by decide +kernel
theorem F_PJ_rowAskedFor_32 : fetch m_PJ_rowAskedFor 32 = some (.aload_n 0) := by decide +kernel
theorem F_PJ_rowAskedFor_33 : fetch m_PJ_rowAskedFor 33 = some (.invokevirtual 251) := by decide +kernel
theorem F_PJ_rowAskedFor_36 : fetch m_PJ_rowAskedFor 36 = some (.getfield 89) := by decide +kernel
theorem F_PJ_rowAskedFor_39 : fetch m_PJ_rowAskedFor 39 = some (.areturn) := by decide +kernel
theorem F_PJ_rowAskedFor_40 : fetch m_PJ_rowAskedFor 40 = some (.iload_n 1) := by decide +kernel
theorem F_PJ_rowAskedFor_41 : fetch m_PJ_rowAskedFor 41 = some (.ifCond .ne 13) := by decide +kernel
theorem F_PJ_rowAskedFor_44 : fetch m_PJ_rowAskedFor 44 = some (.aload_n 0) := by decide +kernel
theorem F_PJ_rowAskedFor_45 : fetch m_PJ_rowAskedFor 45 = some (.getfield 28) := by decide +kernel
theorem F_PJ_rowAskedFor_48 : fetch m_PJ_rowAskedFor 48 = some (.getfield 163) := by decide +kernel
theorem F_PJ_rowAskedFor_51 : fetch m_PJ_rowAskedFor 51 = some (.goto 10) := by decide +kernel
theorem F_PJ_rowAskedFor_54 : fetch m_PJ_rowAskedFor 54 = some (.aload_n 0) := by decide +kernel
theorem F_PJ_rowAskedFor_55 : fetch m_PJ_rowAskedFor 55 = some (.getfield 28) := by decide +kernel
theorem F_PJ_rowAskedFor_58 : fetch m_PJ_rowAskedFor 58 = some (.getfield 166) := by decide +kernel
theorem F_PJ_rowAskedFor_61 : fetch m_PJ_rowAskedFor 61 = some (.areturn) := by decide +kernel
theorem F_PJ_latestState_0 : fetch m_PJ_latestState 0 = some (.aload_n 0) := by decide +kernel
theorem F_PJ_latestState_1 : fetch m_PJ_latestState 1 = some (.getfield 35) := by decide +kernel
theorem F_PJ_latestState_4 : fetch m_PJ_latestState 4 = some (.getfield 261) := by decide +kernel
theorem F_PJ_latestState_7 : fetch m_PJ_latestState 7 = some (.ifCond .eq 13) := by decide +kernel
theorem F_PJ_latestState_10 : fetch m_PJ_latestState 10 = some (.aload_n 0) := by decide +kernel
theorem F_PJ_latestState_11 : fetch m_PJ_latestState 11 = some (.getfield 35) := by decide +kernel
theorem F_PJ_latestState_14 : fetch m_PJ_latestState 14 = some (.getfield 265) := by decide +kernel
theorem F_PJ_latestState_17 : fetch m_PJ_latestState 17 = some (.goto 10) := by decide +kernel
theorem F_PJ_latestState_20 : fetch m_PJ_latestState 20 = some (.aload_n 0) := by decide +kernel
theorem F_PJ_latestState_21 : fetch m_PJ_latestState 21 = some (.getfield 21) := by decide +kernel
theorem F_PJ_latestState_24 : fetch m_PJ_latestState 24 = some (.getfield 75) := by decide +kernel
theorem F_PJ_latestState_27 : fetch m_PJ_latestState 27 = some (.areturn) := by decide +kernel
theorem F_PJ_below_0 : fetch m_PJ_below 0 = some (.aload_n 0) := by decide +kernel
theorem F_PJ_below_1 : fetch m_PJ_below 1 = some (.iload_n 1) := by decide +kernel
theorem F_PJ_below_2 : fetch m_PJ_below 2 = some (.iload_n 2) := by decide +kernel
theorem F_PJ_below_3 : fetch m_PJ_below 3 = some (.invokevirtual 244) := by decide +kernel
theorem F_PJ_below_6 : fetch m_PJ_below 6 = some (.getfield 248) := by decide +kernel
theorem F_PJ_below_9 : fetch m_PJ_below 9 = some (.iload_n 2) := by decide +kernel
theorem F_PJ_below_10 : fetch m_PJ_below 10 = some (.laload) := by decide +kernel
theorem F_PJ_below_11 : fetch m_PJ_below 11 = some (.lreturn) := by decide +kernel
theorem F_PJ_holds_0 : fetch m_PJ_holds 0 = some (.iload_n 1) := by decide +kernel
theorem F_PJ_holds_1 : fetch m_PJ_holds 1 = some (.bipush 16) := by decide +kernel
theorem F_PJ_holds_3 : fetch m_PJ_holds 3 = some (.invokestatic 71) := by decide +kernel
theorem F_PJ_holds_6 : fetch m_PJ_holds 6 = some (.aload_n 0) := by decide +kernel
theorem F_PJ_holds_7 : fetch m_PJ_holds 7 = some (.invokevirtual 251) := by decide +kernel
theorem F_PJ_holds_10 : fetch m_PJ_holds 10 = some (.getfield 79) := by decide +kernel
theorem F_PJ_holds_13 : fetch m_PJ_holds 13 = some (.iload_n 1) := by decide +kernel
theorem F_PJ_holds_14 : fetch m_PJ_holds 14 = some (.invokestatic 85) := by decide +kernel
theorem F_PJ_holds_17 : fetch m_PJ_holds 17 = some (.iand) := by decide +kernel
theorem F_PJ_holds_18 : fetch m_PJ_holds 18 = some (.ifCond .eq 7) := by decide +kernel
theorem F_PJ_holds_21 : fetch m_PJ_holds 21 = some (.iconst 1) := by decide +kernel
theorem F_PJ_holds_22 : fetch m_PJ_holds 22 = some (.goto 4) := by decide +kernel
theorem F_PJ_holds_25 : fetch m_PJ_holds 25 = some (.iconst 0) := by decide +kernel
theorem F_PJ_holds_26 : fetch m_PJ_holds 26 = some (.ireturn) := by decide +kernel
