theorem F_Fractions_init_0 : fetch m_Fractions_init 0 = some (.aload_n 0) := by decide +kernel
theorem F_Fractions_init_1 : fetch m_Fractions_init 1 = some (.invokespecial 3) := by decide +kernel
theorem F_Fractions_init_4 : fetch m_Fractions_init 4 = some (.aload_n 0) := by decide +kernel
theorem F_Fractions_init_5 : fetch m_Fractions_init 5 = some (.iload_n 1) := by decide +kernel
theorem F_Fractions_init_6 : fetch m_Fractions_init 6 = some (.newarray .long) := by decide +kernel
theorem F_Fractions_init_8 : fetch m_Fractions_init 8 = some (.putfield 9) := by decide +kernel
theorem F_Fractions_init_11 : fetch m_Fractions_init 11 = some (.aload_n 0) := by decide +kernel
theorem F_Fractions_init_12 : fetch m_Fractions_init 12 = some (.iload_n 1) := by decide +kernel
theorem F_Fractions_init_13 : fetch m_Fractions_init 13 = some (.newarray .long) := by decide +kernel
theorem F_Fractions_init_15 : fetch m_Fractions_init 15 = some (.putfield 15) := by decide +kernel
theorem F_Fractions_init_18 : fetch m_Fractions_init 18 = some (.aload_n 0) := by decide +kernel
theorem F_Fractions_init_19 : fetch m_Fractions_init 19 = some (.getfield 15) := by decide +kernel
theorem F_Fractions_init_22 : fetch m_Fractions_init 22 = some (.lconst 1) := by decide +kernel
theorem F_Fractions_init_23 : fetch m_Fractions_init 23 = some (.invokestatic 18) := by decide +kernel
theorem F_Fractions_init_26 : fetch m_Fractions_init 26 = some (.return_) := by decide +kernel
theorem F_Arrays_fill_0 : fetch m_Arrays_fill 0 = some (.iconst 0) := by decide +kernel
theorem F_Arrays_fill_1 : fetch m_Arrays_fill 1 = some (.istore_n 3) := by decide +kernel
theorem F_Arrays_fill_2 : fetch m_Arrays_fill 2 = some (.aload_n 0) := by decide +kernel
theorem F_Arrays_fill_3 : fetch m_Arrays_fill 3 = some (.arraylength) := by decide +kernel
theorem F_Arrays_fill_4 : fetch m_Arrays_fill 4 = some (.istore 4) := by decide +kernel
theorem F_Arrays_fill_6 : fetch m_Arrays_fill 6 = some (.iload_n 3) := by decide +kernel
theorem F_Arrays_fill_7 : fetch m_Arrays_fill 7 = some (.iload 4) := by decide +kernel
theorem F_Arrays_fill_9 : fetch m_Arrays_fill 9 = some (.if_icmp .ge 13) := by decide +kernel
theorem F_Arrays_fill_12 : fetch m_Arrays_fill 12 = some (.aload_n 0) := by decide +kernel
theorem F_Arrays_fill_13 : fetch m_Arrays_fill 13 = some (.iload_n 3) := by decide +kernel
theorem F_Arrays_fill_14 : fetch m_Arrays_fill 14 = some (.lload_n 1) := by decide +kernel
theorem F_Arrays_fill_15 : fetch m_Arrays_fill 15 = some (.lastore) := by decide +kernel
theorem F_Arrays_fill_16 : fetch m_Arrays_fill 16 = some (.iinc 3 1) := by decide +kernel
theorem F_Arrays_fill_19 : fetch m_Arrays_fill 19 = some (.goto (-13)) := by decide +kernel
theorem F_Arrays_fill_22 : fetch m_Arrays_fill 22 = some (.return_) := by decide +kernel
theorem F_Task_init_0 : fetch m_Task_init 0 = some (.aload_n 0) := by decide +kernel
theorem F_Task_init_1 : fetch m_Task_init 1 = some (.invokespecial 3) := by decide +kernel
theorem F_Task_init_4 : fetch m_Task_init 4 = some (.aload_n 0) := by decide +kernel
theorem F_Task_init_5 : fetch m_Task_init 5 = some (.new 9) := by decide +kernel
theorem F_Task_init_8 : fetch m_Task_init 8 = some (.dup) := by decide +kernel
theorem F_Task_init_9 : fetch m_Task_init 9 = some (.invokespecial 11) := by decide +kernel
theorem F_Task_init_12 : fetch m_Task_init 12 = some (.putfield 12) := by decide +kernel
theorem F_Task_init_15 : fetch m_Task_init 15 = some (.aload_n 0) := by decide +kernel
theorem F_Task_init_16 : fetch m_Task_init 16 = some (.new 18) := by decide +kernel
theorem F_Task_init_19 : fetch m_Task_init 19 = some (.dup) := by decide +kernel
theorem F_Task_init_20 : fetch m_Task_init 20 = some (.invokespecial 20) := by decide +kernel
theorem F_Task_init_23 : fetch m_Task_init 23 = some (.putfield 21) := by decide +kernel
theorem F_Task_init_26 : fetch m_Task_init 26 = some (.aload_n 0) := by decide +kernel
theorem F_Task_init_27 : fetch m_Task_init 27 = some (.new 25) := by decide +kernel
theorem F_Task_init_30 : fetch m_Task_init 30 = some (.dup) := by decide +kernel
theorem F_Task_init_31 : fetch m_Task_init 31 = some (.iconst 1) := by decide +kernel
theorem F_Task_init_32 : fetch m_Task_init 32 = some (.invokespecial 27) := by decide +kernel
theorem F_Task_init_35 : fetch m_Task_init 35 = some (.putfield 30) := by decide +kernel
theorem F_Task_init_38 : fetch m_Task_init 38 = some (.aload_n 0) := by decide +kernel
theorem F_Task_init_39 : fetch m_Task_init 39 = some (.bipush 8) := by decide +kernel
theorem F_Task_init_41 : fetch m_Task_init 41 = some (.newarray .int) := by decide +kernel
theorem F_Task_init_43 : fetch m_Task_init 43 = some (.putfield 34) := by decide +kernel
theorem F_Task_init_46 : fetch m_Task_init 46 = some (.aload_n 0) := by decide +kernel
theorem F_Task_init_47 : fetch m_Task_init 47 = some (.new 25) := by decide +kernel
theorem F_Task_init_50 : fetch m_Task_init 50 = some (.dup) := by decide +kernel
theorem F_Task_init_51 : fetch m_Task_init 51 = some (.bipush 8) := by decide +kernel
theorem F_Task_init_53 : fetch m_Task_init 53 = some (.invokespecial 27) := by decide +kernel
theorem F_Task_init_56 : fetch m_Task_init 56 = some (.putfield 38) := by decide +kernel
theorem F_Task_init_59 : fetch m_Task_init 59 = some (.aload_n 0) := by decide +kernel
theorem F_Task_init_60 : fetch m_Task_init 60 = some (.getfield 30) := by decide +kernel
theorem F_Task_init_63 : fetch m_Task_init 63 = some (.iconst 0) := by decide +kernel
theorem F_Task_init_64 : fetch m_Task_init 64 = some (.lconst 1) := by decide +kernel
theorem F_Task_init_65 : fetch m_Task_init 65 = some (.ldc2_w 41) := by decide +kernel
theorem F_Task_init_68 : fetch m_Task_init 68 = some (.invokevirtual 43) := by decide +kernel
theorem F_Task_init_71 : fetch m_Task_init 71 = some (.aload_n 0) := by decide +kernel
theorem F_Task_init_72 : fetch m_Task_init 72 = some (.getfield 34) := by decide +kernel
theorem F_Task_init_75 : fetch m_Task_init 75 = some (.iconst (-1)) := by decide +kernel
theorem F_Task_init_76 : fetch m_Task_init 76 = some (.invokestatic 47) := by decide +kernel
theorem F_Task_init_79 : fetch m_Task_init 79 = some (.return_) := by decide +kernel
theorem F_ArrayList_init_0 : fetch m_ArrayList_init 0 = some (.aload_n 0) := by decide +kernel
theorem F_ArrayList_init_1 : fetch m_ArrayList_init 1 = some (.invokespecial 1) := by decide +kernel
theorem F_ArrayList_init_4 : fetch m_ArrayList_init 4 = some (.aload_n 0) := by decide +kernel
theorem F_ArrayList_init_5 : fetch m_ArrayList_init 5 = some (.getstatic 39) := by decide +kernel
theorem F_ArrayList_init_8 : fetch m_ArrayList_init 8 = some (.putfield 9) := by decide +kernel
theorem F_ArrayList_init_11 : fetch m_ArrayList_init 11 = some (.return_) := by decide +kernel
theorem F_AbstractList_init_0 : fetch m_AbstractList_init 0 = some (.aload_n 0) := by decide +kernel
theorem F_AbstractList_init_1 : fetch m_AbstractList_init 1 = some (.invokespecial 1) := by decide +kernel
theorem F_AbstractList_init_4 : fetch m_AbstractList_init 4 = some (.aload_n 0) := by decide +kernel
theorem F_AbstractList_init_5 : fetch m_AbstractList_init 5 = some (.iconst 0) := by decide +kernel
theorem F_AbstractList_init_6 : fetch m_AbstractList_init 6 = some (.putfield 7) := by decide +kernel
theorem F_AbstractList_init_9 : fetch m_AbstractList_init 9 = some (.return_) := by decide +kernel
theorem F_AbstractCollection_init_0 : fetch m_AbstractCollection_init 0 = some (.aload_n 0) := by decide +kernel
theorem F_AbstractCollection_init_1 : fetch m_AbstractCollection_init 1 = some (.invokespecial 1) := by decide +kernel
theorem F_AbstractCollection_init_4 : fetch m_AbstractCollection_init 4 = some (.return_) := by decide +kernel
theorem F_State_init_0 : fetch m_State_init 0 = some (.aload_n 0) := by decide +kernel
theorem F_State_init_1 : fetch m_State_init 1 = some (.invokespecial 3) := by decide +kernel
theorem F_State_init_4 : fetch m_State_init 4 = some (.aload_n 0) := by decide +kernel
theorem F_State_init_5 : fetch m_State_init 5 = some (.new 9) := by decide +kernel
theorem F_State_init_8 : fetch m_State_init 8 = some (.dup) := by decide +kernel
theorem F_State_init_9 : fetch m_State_init 9 = some (.bipush 8) := by decide +kernel
theorem F_State_init_11 : fetch m_State_init 11 = some (.invokespecial 11) := by decide +kernel
theorem F_State_init_14 : fetch m_State_init 14 = some (.putfield 14) := by decide +kernel
theorem F_State_init_17 : fetch m_State_init 17 = some (.return_) := by decide +kernel
theorem F_Fractions_put_0 : fetch m_Fractions_put 0 = some (.lload 4) := by decide +kernel
theorem F_Fractions_put_2 : fetch m_Fractions_put 2 = some (.lstore 6) := by decide +kernel
theorem F_Fractions_put_4 : fetch m_Fractions_put 4 = some (.lload_n 2) := by decide +kernel
theorem F_Fractions_put_5 : fetch m_Fractions_put 5 = some (.lconst 0) := by decide +kernel
theorem F_Fractions_put_6 : fetch m_Fractions_put 6 = some (.lcmp) := by decide +kernel
theorem F_Fractions_put_7 : fetch m_Fractions_put 7 = some (.ifCond .ge 8) := by decide +kernel
theorem F_Fractions_put_10 : fetch m_Fractions_put 10 = some (.lload_n 2) := by decide +kernel
theorem F_Fractions_put_11 : fetch m_Fractions_put 11 = some (.lneg) := by decide +kernel
theorem F_Fractions_put_12 : fetch m_Fractions_put 12 = some (.goto 4) := by decide +kernel
theorem F_Fractions_put_15 : fetch m_Fractions_put 15 = some (.lload_n 2) := by decide +kernel
theorem F_Fractions_put_16 : fetch m_Fractions_put 16 = some (.lstore 8) := by decide +kernel
theorem F_Fractions_put_18 : fetch m_Fractions_put 18 = some (.iconst 0) := by decide +kernel
theorem F_Fractions_put_19 : fetch m_Fractions_put 19 = some (.istore 10) := by decide +kernel
theorem F_Fractions_put_21 : fetch m_Fractions_put 21 = some (.iload 10) := by decide +kernel
theorem F_Fractions_put_23 : fetch m_Fractions_put 23 = some (.sipush 200) := by decide +kernel
theorem F_Fractions_put_26 : fetch m_Fractions_put 26 = some (.if_icmp .ge 31) := by decide +kernel
theorem F_Fractions_put_29 : fetch m_Fractions_put 29 = some (.lload 8) := by decide +kernel
theorem F_Fractions_put_31 : fetch m_Fractions_put 31 = some (.lconst 0) := by decide +kernel
theorem F_Fractions_put_32 : fetch m_Fractions_put 32 = some (.lcmp) := by decide +kernel
theorem F_Fractions_put_33 : fetch m_Fractions_put 33 = some (.ifCond .eq 24) := by decide +kernel
theorem F_Fractions_put_36 : fetch m_Fractions_put 36 = some (.lload 6) := by decide +kernel
theorem F_Fractions_put_38 : fetch m_Fractions_put 38 = some (.lload 8) := by decide +kernel
theorem F_Fractions_put_40 : fetch m_Fractions_put 40 = some (.lrem) := by decide +kernel
theorem F_Fractions_put_41 : fetch m_Fractions_put 41 = some (.lstore 11) := by decide +kernel
theorem F_Fractions_put_43 : fetch m_Fractions_put 43 = some (.lload 8) := by decide +kernel
theorem F_Fractions_put_45 : fetch m_Fractions_put 45 = some (.lstore 6) := by decide +kernel
theorem F_Fractions_put_47 : fetch m_Fractions_put 47 = some (.lload 11) := by decide +kernel
theorem F_Fractions_put_49 : fetch m_Fractions_put 49 = some (.lstore 8) := by decide +kernel
theorem F_Fractions_put_51 : fetch m_Fractions_put 51 = some (.iinc 10 1) := by decide +kernel
theorem F_Fractions_put_54 : fetch m_Fractions_put 54 = some (.goto (-33)) := by decide +kernel
theorem F_Fractions_put_57 : fetch m_Fractions_put 57 = some (.aload_n 0) := by decide +kernel
theorem F_Fractions_put_58 : fetch m_Fractions_put 58 = some (.getfield 9) := by decide +kernel
theorem F_Fractions_put_61 : fetch m_Fractions_put 61 = some (.iload_n 1) := by decide +kernel
theorem F_Fractions_put_62 : fetch m_Fractions_put 62 = some (.lload 6) := by decide +kernel
theorem F_Fractions_put_64 : fetch m_Fractions_put 64 = some (.lconst 1) := by decide +kernel
theorem F_Fractions_put_65 : fetch m_Fractions_put 65 = some (.lcmp) := by decide +kernel
theorem F_Fractions_put_66 : fetch m_Fractions_put 66 = some (.ifCond .le 10) := by decide +kernel
theorem F_Fractions_put_69 : fetch m_Fractions_put 69 = some (.lload_n 2) := by decide +kernel
theorem F_Fractions_put_70 : fetch m_Fractions_put 70 = some (.lload 6) := by decide +kernel
theorem F_Fractions_put_72 : fetch m_Fractions_put 72 = some (.ldiv) := by decide +kernel
theorem F_Fractions_put_73 : fetch m_Fractions_put 73 = some (.goto 4) := by decide +kernel
theorem F_Fractions_put_76 : fetch m_Fractions_put 76 = some (.lload_n 2) := by decide +kernel
theorem F_Fractions_put_77 : fetch m_Fractions_put 77 = some (.lastore) := by decide +kernel
theorem F_Fractions_put_78 : fetch m_Fractions_put 78 = some (.aload_n 0) := by decide +kernel
theorem F_Fractions_put_79 : fetch m_Fractions_put 79 = some (.getfield 15) := by decide +kernel
theorem F_Fractions_put_82 : fetch m_Fractions_put 82 = some (.iload_n 1) := by decide +kernel
theorem F_Fractions_put_83 : fetch m_Fractions_put 83 = some (.lload 6) := by decide +kernel
theorem F_Fractions_put_85 : fetch m_Fractions_put 85 = some (.lconst 1) := by decide +kernel
theorem F_Fractions_put_86 : fetch m_Fractions_put 86 = some (.lcmp) := by decide +kernel
theorem F_Fractions_put_87 : fetch m_Fractions_put 87 = some (.ifCond .le 11) := by decide +kernel
theorem F_Fractions_put_90 : fetch m_Fractions_put 90 = some (.lload 4) := by decide +kernel
theorem F_Fractions_put_92 : fetch m_Fractions_put 92 = some (.lload 6) := by decide +kernel
theorem F_Fractions_put_94 : fetch m_Fractions_put 94 = some (.ldiv) := by decide +kernel
theorem F_Fractions_put_95 : fetch m_Fractions_put 95 = some (.goto 5) := by decide +kernel
theorem F_Fractions_put_98 : fetch m_Fractions_put 98 = some (.lload 4) := by decide +kernel
theorem F_Fractions_put_100 : fetch m_Fractions_put 100 = some (.lastore) := by decide +kernel
theorem F_Fractions_put_101 : fetch m_Fractions_put 101 = some (.return_) := by decide +kernel
theorem F_Arrays_fill2_0 : fetch m_Arrays_fill2 0 = some (.iconst 0) := by decide +kernel
theorem F_Arrays_fill2_1 : fetch m_Arrays_fill2 1 = some (.istore_n 2) := by decide +kernel
theorem F_Arrays_fill2_2 : fetch m_Arrays_fill2 2 = some (.aload_n 0) := by decide +kernel
theorem F_Arrays_fill2_3 : fetch m_Arrays_fill2 3 = some (.arraylength) := by decide +kernel
theorem F_Arrays_fill2_4 : fetch m_Arrays_fill2 4 = some (.istore_n 3) := by decide +kernel
theorem F_Arrays_fill2_5 : fetch m_Arrays_fill2 5 = some (.iload_n 2) := by decide +kernel
theorem F_Arrays_fill2_6 : fetch m_Arrays_fill2 6 = some (.iload_n 3) := by decide +kernel
theorem F_Arrays_fill2_7 : fetch m_Arrays_fill2 7 = some (.if_icmp .ge 13) := by decide +kernel
theorem F_Arrays_fill2_10 : fetch m_Arrays_fill2 10 = some (.aload_n 0) := by decide +kernel
theorem F_Arrays_fill2_11 : fetch m_Arrays_fill2 11 = some (.iload_n 2) := by decide +kernel
theorem F_Arrays_fill2_12 : fetch m_Arrays_fill2 12 = some (.iload_n 1) := by decide +kernel
theorem F_Arrays_fill2_13 : fetch m_Arrays_fill2 13 = some (.iastore) := by decide +kernel
theorem F_Arrays_fill2_14 : fetch m_Arrays_fill2 14 = some (.iinc 2 1) := by decide +kernel
theorem F_Arrays_fill2_17 : fetch m_Arrays_fill2 17 = some (.goto (-12)) := by decide +kernel
theorem F_Arrays_fill2_20 : fetch m_Arrays_fill2 20 = some (.return_) := by decide +kernel
theorem F_Plan_init_0 : fetch m_Plan_init 0 = some (.aload_n 0) := by decide +kernel
theorem F_Plan_init_1 : fetch m_Plan_init 1 = some (.invokespecial 3) := by decide +kernel
theorem F_Plan_init_4 : fetch m_Plan_init 4 = some (.aload_n 0) := by decide +kernel
theorem F_Plan_init_5 : fetch m_Plan_init 5 = some (.bipush 12) := by decide +kernel
theorem F_Plan_init_7 : fetch m_Plan_init 7 = some (.newarray .int) := by decide +kernel
theorem F_Plan_init_9 : fetch m_Plan_init 9 = some (.putfield 9) := by decide +kernel
theorem F_Plan_init_12 : fetch m_Plan_init 12 = some (.aload_n 0) := by decide +kernel
theorem F_Plan_init_13 : fetch m_Plan_init 13 = some (.new 15) := by decide +kernel
theorem F_Plan_init_16 : fetch m_Plan_init 16 = some (.dup) := by decide +kernel
theorem F_Plan_init_17 : fetch m_Plan_init 17 = some (.bipush 12) := by decide +kernel
theorem F_Plan_init_19 : fetch m_Plan_init 19 = some (.invokespecial 17) := by decide +kernel
theorem F_Plan_init_22 : fetch m_Plan_init 22 = some (.putfield 20) := by decide +kernel
theorem F_Plan_init_25 : fetch m_Plan_init 25 = some (.aload_n 0) := by decide +kernel
theorem F_Plan_init_26 : fetch m_Plan_init 26 = some (.new 15) := by decide +kernel
theorem F_Plan_init_29 : fetch m_Plan_init 29 = some (.dup) := by decide +kernel
theorem F_Plan_init_30 : fetch m_Plan_init 30 = some (.bipush 12) := by decide +kernel
theorem F_Plan_init_32 : fetch m_Plan_init 32 = some (.invokespecial 17) := by decide +kernel
theorem F_Plan_init_35 : fetch m_Plan_init 35 = some (.putfield 24) := by decide +kernel
theorem F_Plan_init_38 : fetch m_Plan_init 38 = some (.aload_n 0) := by decide +kernel
theorem F_Plan_init_39 : fetch m_Plan_init 39 = some (.bipush 24) := by decide +kernel
theorem F_Plan_init_41 : fetch m_Plan_init 41 = some (.newarray .int) := by decide +kernel
theorem F_Plan_init_43 : fetch m_Plan_init 43 = some (.putfield 27) := by decide +kernel
theorem F_Plan_init_46 : fetch m_Plan_init 46 = some (.return_) := by decide +kernel
theorem F_Verdict_init_0 : fetch m_Verdict_init 0 = some (.aload_n 0) := by decide +kernel
theorem F_Verdict_init_1 : fetch m_Verdict_init 1 = some (.invokespecial 3) := by decide +kernel
theorem F_Verdict_init_4 : fetch m_Verdict_init 4 = some (.aload_n 0) := by decide +kernel
theorem F_Verdict_init_5 : fetch m_Verdict_init 5 = some (.iconst (-1)) := by decide +kernel
theorem F_Verdict_init_6 : fetch m_Verdict_init 6 = some (.putfield 9) := by decide +kernel
theorem F_Verdict_init_9 : fetch m_Verdict_init 9 = some (.aload_n 0) := by decide +kernel
theorem F_Verdict_init_10 : fetch m_Verdict_init 10 = some (.new 15) := by decide +kernel
theorem F_Verdict_init_13 : fetch m_Verdict_init 13 = some (.dup) := by decide +kernel
theorem F_Verdict_init_14 : fetch m_Verdict_init 14 = some (.invokespecial 17) := by decide +kernel
theorem F_Verdict_init_17 : fetch m_Verdict_init 17 = some (.putfield 18) := by decide +kernel
theorem F_Verdict_init_20 : fetch m_Verdict_init 20 = some (.return_) := by decide +kernel
theorem F_Plan_empty_0 : fetch m_Plan_empty 0 = some (.aload_n 0) := by decide +kernel
theorem F_Plan_empty_1 : fetch m_Plan_empty 1 = some (.iconst 0) := by decide +kernel
theorem F_Plan_empty_2 : fetch m_Plan_empty 2 = some (.putfield 30) := by decide +kernel
theorem F_Plan_empty_5 : fetch m_Plan_empty 5 = some (.aload_n 0) := by decide +kernel
theorem F_Plan_empty_6 : fetch m_Plan_empty 6 = some (.iconst 0) := by decide +kernel
theorem F_Plan_empty_7 : fetch m_Plan_empty 7 = some (.putfield 34) := by decide +kernel
theorem F_Plan_empty_10 : fetch m_Plan_empty 10 = some (.aload_n 0) := by decide +kernel
theorem F_Plan_empty_11 : fetch m_Plan_empty 11 = some (.iconst 0) := by decide +kernel
theorem F_Plan_empty_12 : fetch m_Plan_empty 12 = some (.putfield 37) := by decide +kernel
theorem F_Plan_empty_15 : fetch m_Plan_empty 15 = some (.return_) := by decide +kernel
theorem F_Fractions_copy_0 : fetch m_Fractions_copy 0 = some (.aload_n 0) := by decide +kernel
theorem F_Fractions_copy_1 : fetch m_Fractions_copy 1 = some (.getfield 9) := by decide +kernel
theorem F_Fractions_copy_4 : fetch m_Fractions_copy 4 = some (.iload_n 1) := by decide +kernel
theorem F_Fractions_copy_5 : fetch m_Fractions_copy 5 = some (.aload_n 2) := by decide +kernel
theorem F_Fractions_copy_6 : fetch m_Fractions_copy 6 = some (.getfield 9) := by decide +kernel
theorem F_Fractions_copy_9 : fetch m_Fractions_copy 9 = some (.iload_n 3) := by decide +kernel
theorem F_Fractions_copy_10 : fetch m_Fractions_copy 10 = some (.laload) := by decide +kernel
theorem F_Fractions_copy_11 : fetch m_Fractions_copy 11 = some (.lastore) := by decide +kernel
theorem F_Fractions_copy_12 : fetch m_Fractions_copy 12 = some (.aload_n 0) := by decide +kernel
theorem F_Fractions_copy_13 : fetch m_Fractions_copy 13 = some (.getfield 15) := by decide +kernel
theorem F_Fractions_copy_16 : fetch m_Fractions_copy 16 = some (.iload_n 1) := by decide +kernel
theorem F_Fractions_copy_17 : fetch m_Fractions_copy 17 = some (.aload_n 2) := by decide +kernel
theorem F_Fractions_copy_18 : fetch m_Fractions_copy 18 = some (.getfield 15) := by decide +kernel
theorem F_Fractions_copy_21 : fetch m_Fractions_copy 21 = some (.iload_n 3) := by decide +kernel
theorem F_Fractions_copy_22 : fetch m_Fractions_copy 22 = some (.laload) := by decide +kernel
theorem F_Fractions_copy_23 : fetch m_Fractions_copy 23 = some (.lastore) := by decide +kernel
theorem F_Fractions_copy_24 : fetch m_Fractions_copy 24 = some (.return_) := by decide +kernel
theorem F_Fractions_alter_0 : fetch m_Fractions_alter 0 = some (.iload_n 2) := by decide +kernel
theorem F_Fractions_alter_1 : fetch m_Fractions_alter 1 = some (.tableswitch 140 0 2 #[27, 38, 89]) := by decide +kernel
theorem F_Fractions_alter_28 : fetch m_Fractions_alter 28 = some (.aload_n 0) := by decide +kernel
theorem F_Fractions_alter_29 : fetch m_Fractions_alter 29 = some (.iload_n 1) := by decide +kernel
theorem F_Fractions_alter_30 : fetch m_Fractions_alter 30 = some (.aload_n 3) := by decide +kernel
theorem F_Fractions_alter_31 : fetch m_Fractions_alter 31 = some (.iload 4) := by decide +kernel
theorem F_Fractions_alter_33 : fetch m_Fractions_alter 33 = some (.invokevirtual 30) := by decide +kernel
theorem F_Fractions_alter_36 : fetch m_Fractions_alter 36 = some (.goto 138) := by decide +kernel
theorem F_Fractions_alter_39 : fetch m_Fractions_alter 39 = some (.aload_n 0) := by decide +kernel
theorem F_Fractions_alter_40 : fetch m_Fractions_alter 40 = some (.iload_n 1) := by decide +kernel
theorem F_Fractions_alter_41 : fetch m_Fractions_alter 41 = some (.aload_n 0) := by decide +kernel
theorem F_Fractions_alter_42 : fetch m_Fractions_alter 42 = some (.getfield 9) := by decide +kernel
theorem F_Fractions_alter_45 : fetch m_Fractions_alter 45 = some (.iload_n 1) := by decide +kernel
theorem F_Fractions_alter_46 : fetch m_Fractions_alter 46 = some (.laload) := by decide +kernel
theorem F_Fractions_alter_47 : fetch m_Fractions_alter 47 = some (.aload_n 3) := by decide +kernel
theorem F_Fractions_alter_48 : fetch m_Fractions_alter 48 = some (.getfield 15) := by decide +kernel
theorem F_Fractions_alter_51 : fetch m_Fractions_alter 51 = some (.iload 4) := by decide +kernel
theorem F_Fractions_alter_53 : fetch m_Fractions_alter 53 = some (.laload) := by decide +kernel
theorem F_Fractions_alter_54 : fetch m_Fractions_alter 54 = some (.lmul) := by decide +kernel
theorem F_Fractions_alter_55 : fetch m_Fractions_alter 55 = some (.aload_n 3) := by decide +kernel
theorem F_Fractions_alter_56 : fetch m_Fractions_alter 56 = some (.getfield 9) := by decide +kernel
theorem F_Fractions_alter_59 : fetch m_Fractions_alter 59 = some (.iload 4) := by decide +kernel
theorem F_Fractions_alter_61 : fetch m_Fractions_alter 61 = some (.laload) := by decide +kernel
theorem F_Fractions_alter_62 : fetch m_Fractions_alter 62 = some (.aload_n 0) := by decide +kernel
theorem F_Fractions_alter_63 : fetch m_Fractions_alter 63 = some (.getfield 15) := by decide +kernel
theorem F_Fractions_alter_66 : fetch m_Fractions_alter 66 = some (.iload_n 1) := by decide +kernel
theorem F_Fractions_alter_67 : fetch m_Fractions_alter 67 = some (.laload) := by decide +kernel
theorem F_Fractions_alter_68 : fetch m_Fractions_alter 68 = some (.lmul) := by decide +kernel
theorem F_Fractions_alter_69 : fetch m_Fractions_alter 69 = some (.ladd) := by decide +kernel
theorem F_Fractions_alter_70 : fetch m_Fractions_alter 70 = some (.aload_n 0) := by decide +kernel
theorem F_Fractions_alter_71 : fetch m_Fractions_alter 71 = some (.getfield 15) := by decide +kernel
theorem F_Fractions_alter_74 : fetch m_Fractions_alter 74 = some (.iload_n 1) := by decide +kernel
theorem F_Fractions_alter_75 : fetch m_Fractions_alter 75 = some (.laload) := by decide +kernel
theorem F_Fractions_alter_76 : fetch m_Fractions_alter 76 = some (.aload_n 3) := by decide +kernel
theorem F_Fractions_alter_77 : fetch m_Fractions_alter 77 = some (.getfield 15) := by decide +kernel
theorem F_Fractions_alter_80 : fetch m_Fractions_alter 80 = some (.iload 4) := by decide +kernel
theorem F_Fractions_alter_82 : fetch m_Fractions_alter 82 = some (.laload) := by decide +kernel
theorem F_Fractions_alter_83 : fetch m_Fractions_alter 83 = some (.lmul) := by decide +kernel
theorem F_Fractions_alter_84 : fetch m_Fractions_alter 84 = some (.invokevirtual 34) := by decide +kernel
theorem F_Fractions_alter_87 : fetch m_Fractions_alter 87 = some (.goto 87) := by decide +kernel
theorem F_Fractions_alter_90 : fetch m_Fractions_alter 90 = some (.aload_n 0) := by decide +kernel
theorem F_Fractions_alter_91 : fetch m_Fractions_alter 91 = some (.iload_n 1) := by decide +kernel
theorem F_Fractions_alter_92 : fetch m_Fractions_alter 92 = some (.aload_n 0) := by decide +kernel
theorem F_Fractions_alter_93 : fetch m_Fractions_alter 93 = some (.getfield 9) := by decide +kernel
theorem F_Fractions_alter_96 : fetch m_Fractions_alter 96 = some (.iload_n 1) := by decide +kernel
theorem F_Fractions_alter_97 : fetch m_Fractions_alter 97 = some (.laload) := by decide +kernel
theorem F_Fractions_alter_98 : fetch m_Fractions_alter 98 = some (.aload_n 3) := by decide +kernel
theorem F_Fractions_alter_99 : fetch m_Fractions_alter 99 = some (.getfield 15) := by decide +kernel
theorem F_Fractions_alter_102 : fetch m_Fractions_alter 102 = some (.iload 4) := by decide +kernel
theorem F_Fractions_alter_104 : fetch m_Fractions_alter 104 = some (.laload) := by decide +kernel
theorem F_Fractions_alter_105 : fetch m_Fractions_alter 105 = some (.lmul) := by decide +kernel
theorem F_Fractions_alter_106 : fetch m_Fractions_alter 106 = some (.aload_n 3) := by decide +kernel
theorem F_Fractions_alter_107 : fetch m_Fractions_alter 107 = some (.getfield 9) := by decide +kernel
theorem F_Fractions_alter_110 : fetch m_Fractions_alter 110 = some (.iload 4) := by decide +kernel
theorem F_Fractions_alter_112 : fetch m_Fractions_alter 112 = some (.laload) := by decide +kernel
theorem F_Fractions_alter_113 : fetch m_Fractions_alter 113 = some (.aload_n 0) := by decide +kernel
theorem F_Fractions_alter_114 : fetch m_Fractions_alter 114 = some (.getfield 15) := by decide +kernel
theorem F_Fractions_alter_117 : fetch m_Fractions_alter 117 = some (.iload_n 1) := by decide +kernel
theorem F_Fractions_alter_118 : fetch m_Fractions_alter 118 = some (.laload) := by decide +kernel
theorem F_Fractions_alter_119 : fetch m_Fractions_alter 119 = some (.lmul) := by decide +kernel
theorem F_Fractions_alter_120 : fetch m_Fractions_alter 120 = some (.lsub) := by decide +kernel
theorem F_Fractions_alter_121 : fetch m_Fractions_alter 121 = some (.aload_n 0) := by decide +kernel
theorem F_Fractions_alter_122 : fetch m_Fractions_alter 122 = some (.getfield 15) := by decide +kernel
theorem F_Fractions_alter_125 : fetch m_Fractions_alter 125 = some (.iload_n 1) := by decide +kernel
theorem F_Fractions_alter_126 : fetch m_Fractions_alter 126 = some (.laload) := by decide +kernel
theorem F_Fractions_alter_127 : fetch m_Fractions_alter 127 = some (.aload_n 3) := by decide +kernel
theorem F_Fractions_alter_128 : fetch m_Fractions_alter 128 = some (.getfield 15) := by decide +kernel
theorem F_Fractions_alter_131 : fetch m_Fractions_alter 131 = some (.iload 4) := by decide +kernel
theorem F_Fractions_alter_133 : fetch m_Fractions_alter 133 = some (.laload) := by decide +kernel
theorem F_Fractions_alter_134 : fetch m_Fractions_alter 134 = some (.lmul) := by decide +kernel
theorem F_Fractions_alter_135 : fetch m_Fractions_alter 135 = some (.invokevirtual 34) := by decide +kernel
theorem F_Fractions_alter_138 : fetch m_Fractions_alter 138 = some (.goto 36) := by decide +kernel
theorem F_Fractions_alter_141 : fetch m_Fractions_alter 141 = some (.aload_n 0) := by decide +kernel
theorem F_Fractions_alter_142 : fetch m_Fractions_alter 142 = some (.iload_n 1) := by decide +kernel
theorem F_Fractions_alter_143 : fetch m_Fractions_alter 143 = some (.aload_n 0) := by decide +kernel
theorem F_Fractions_alter_144 : fetch m_Fractions_alter 144 = some (.getfield 9) := by decide +kernel
theorem F_Fractions_alter_147 : fetch m_Fractions_alter 147 = some (.iload_n 1) := by decide +kernel
theorem F_Fractions_alter_148 : fetch m_Fractions_alter 148 = some (.laload) := by decide +kernel
theorem F_Fractions_alter_149 : fetch m_Fractions_alter 149 = some (.aload_n 3) := by decide +kernel
theorem F_Fractions_alter_150 : fetch m_Fractions_alter 150 = some (.getfield 9) := by decide +kernel
theorem F_Fractions_alter_153 : fetch m_Fractions_alter 153 = some (.iload 4) := by decide +kernel
theorem F_Fractions_alter_155 : fetch m_Fractions_alter 155 = some (.laload) := by decide +kernel
theorem F_Fractions_alter_156 : fetch m_Fractions_alter 156 = some (.lmul) := by decide +kernel
theorem F_Fractions_alter_157 : fetch m_Fractions_alter 157 = some (.aload_n 0) := by decide +kernel
theorem F_Fractions_alter_158 : fetch m_Fractions_alter 158 = some (.getfield 15) := by decide +kernel
theorem F_Fractions_alter_161 : fetch m_Fractions_alter 161 = some (.iload_n 1) := by decide +kernel
theorem F_Fractions_alter_162 : fetch m_Fractions_alter 162 = some (.laload) := by decide +kernel
theorem F_Fractions_alter_163 : fetch m_Fractions_alter 163 = some (.aload_n 3) := by decide +kernel
theorem F_Fractions_alter_164 : fetch m_Fractions_alter 164 = some (.getfield 15) := by decide +kernel
theorem F_Fractions_alter_167 : fetch m_Fractions_alter 167 = some (.iload 4) := by decide +kernel
theorem F_Fractions_alter_169 : fetch m_Fractions_alter 169 = some (.laload) := by decide +kernel
theorem F_Fractions_alter_170 : fetch m_Fractions_alter 170 = some (.lmul) := by decide +kernel
theorem F_Fractions_alter_171 : fetch m_Fractions_alter 171 = some (.invokevirtual 34) := by decide +kernel
theorem F_Fractions_alter_174 : fetch m_Fractions_alter 174 = some (.return_) := by decide +kernel
theorem F_Fractions_orderTo_0 : fetch m_Fractions_orderTo 0 = some (.aload_n 0) := by decide +kernel
theorem F_Fractions_orderTo_1 : fetch m_Fractions_orderTo 1 = some (.getfield 9) := by decide +kernel
theorem F_Fractions_orderTo_4 : fetch m_Fractions_orderTo 4 = some (.iload_n 1) := by decide +kernel
theorem F_Fractions_orderTo_5 : fetch m_Fractions_orderTo 5 = some (.laload) := by decide +kernel
theorem F_Fractions_orderTo_6 : fetch m_Fractions_orderTo 6 = some (.lstore 4) := by decide +kernel
theorem F_Fractions_orderTo_8 : fetch m_Fractions_orderTo 8 = some (.aload_n 0) := by decide +kernel
theorem F_Fractions_orderTo_9 : fetch m_Fractions_orderTo 9 = some (.getfield 15) := by decide +kernel
theorem F_Fractions_orderTo_12 : fetch m_Fractions_orderTo 12 = some (.iload_n 1) := by decide +kernel
theorem F_Fractions_orderTo_13 : fetch m_Fractions_orderTo 13 = some (.laload) := by decide +kernel
theorem F_Fractions_orderTo_14 : fetch m_Fractions_orderTo 14 = some (.lstore 6) := by decide +kernel
theorem F_Fractions_orderTo_16 : fetch m_Fractions_orderTo 16 = some (.aload_n 2) := by decide +kernel
theorem F_Fractions_orderTo_17 : fetch m_Fractions_orderTo 17 = some (.getfield 9) := by decide +kernel
theorem F_Fractions_orderTo_20 : fetch m_Fractions_orderTo 20 = some (.iload_n 3) := by decide +kernel
theorem F_Fractions_orderTo_21 : fetch m_Fractions_orderTo 21 = some (.laload) := by decide +kernel
theorem F_Fractions_orderTo_22 : fetch m_Fractions_orderTo 22 = some (.lstore 8) := by decide +kernel
theorem F_Fractions_orderTo_24 : fetch m_Fractions_orderTo 24 = some (.aload_n 2) := by decide +kernel
theorem F_Fractions_orderTo_25 : fetch m_Fractions_orderTo 25 = some (.getfield 15) := by decide +kernel
theorem F_Fractions_orderTo_28 : fetch m_Fractions_orderTo 28 = some (.iload_n 3) := by decide +kernel
theorem F_Fractions_orderTo_29 : fetch m_Fractions_orderTo 29 = some (.laload) := by decide +kernel
theorem F_Fractions_orderTo_30 : fetch m_Fractions_orderTo 30 = some (.lstore 10) := by decide +kernel
theorem F_Fractions_orderTo_32 : fetch m_Fractions_orderTo 32 = some (.iconst 1) := by decide +kernel
theorem F_Fractions_orderTo_33 : fetch m_Fractions_orderTo 33 = some (.istore 12) := by decide +kernel
theorem F_Fractions_orderTo_35 : fetch m_Fractions_orderTo 35 = some (.iconst 0) := by decide +kernel
theorem F_Fractions_orderTo_36 : fetch m_Fractions_orderTo 36 = some (.istore 13) := by decide +kernel
theorem F_Fractions_orderTo_38 : fetch m_Fractions_orderTo 38 = some (.iload 13) := by decide +kernel
theorem F_Fractions_orderTo_40 : fetch m_Fractions_orderTo 40 = some (.sipush 200) := by decide +kernel
theorem F_Fractions_orderTo_43 : fetch m_Fractions_orderTo 43 = some (.if_icmp .ge 149) := by decide +kernel
theorem F_Fractions_orderTo_46 : fetch m_Fractions_orderTo 46 = some (.lload 6) := by decide +kernel
theorem F_Fractions_orderTo_48 : fetch m_Fractions_orderTo 48 = some (.lconst 0) := by decide +kernel
theorem F_Fractions_orderTo_49 : fetch m_Fractions_orderTo 49 = some (.lcmp) := by decide +kernel
theorem F_Fractions_orderTo_50 : fetch m_Fractions_orderTo 50 = some (.ifCond .le 142) := by decide +kernel
theorem F_Fractions_orderTo_53 : fetch m_Fractions_orderTo 53 = some (.lload 10) := by decide +kernel
theorem F_Fractions_orderTo_55 : fetch m_Fractions_orderTo 55 = some (.lconst 0) := by decide +kernel
theorem F_Fractions_orderTo_56 : fetch m_Fractions_orderTo 56 = some (.lcmp) := by decide +kernel
theorem F_Fractions_orderTo_57 : fetch m_Fractions_orderTo 57 = some (.ifCond .le 135) := by decide +kernel
theorem F_Fractions_orderTo_60 : fetch m_Fractions_orderTo 60 = some (.lload 4) := by decide +kernel
theorem F_Fractions_orderTo_62 : fetch m_Fractions_orderTo 62 = some (.lload 6) := by decide +kernel
theorem F_Fractions_orderTo_64 : fetch m_Fractions_orderTo 64 = some (.invokestatic 46) := by decide +kernel
theorem F_Fractions_orderTo_67 : fetch m_Fractions_orderTo 67 = some (.lstore 14) := by decide +kernel
theorem F_Fractions_orderTo_69 : fetch m_Fractions_orderTo 69 = some (.lload 8) := by decide +kernel
theorem F_Fractions_orderTo_71 : fetch m_Fractions_orderTo 71 = some (.lload 10) := by decide +kernel
theorem F_Fractions_orderTo_73 : fetch m_Fractions_orderTo 73 = some (.invokestatic 46) := by decide +kernel
theorem F_Fractions_orderTo_76 : fetch m_Fractions_orderTo 76 = some (.lstore 16) := by decide +kernel
theorem F_Fractions_orderTo_78 : fetch m_Fractions_orderTo 78 = some (.lload 14) := by decide +kernel
theorem F_Fractions_orderTo_80 : fetch m_Fractions_orderTo 80 = some (.lload 16) := by decide +kernel
theorem F_Fractions_orderTo_82 : fetch m_Fractions_orderTo 82 = some (.lcmp) := by decide +kernel
theorem F_Fractions_orderTo_83 : fetch m_Fractions_orderTo 83 = some (.ifCond .eq 20) := by decide +kernel
theorem F_Fractions_orderTo_86 : fetch m_Fractions_orderTo 86 = some (.lload 14) := by decide +kernel
theorem F_Fractions_orderTo_88 : fetch m_Fractions_orderTo 88 = some (.lload 16) := by decide +kernel
theorem F_Fractions_orderTo_90 : fetch m_Fractions_orderTo 90 = some (.lcmp) := by decide +kernel
theorem F_Fractions_orderTo_91 : fetch m_Fractions_orderTo 91 = some (.ifCond .ge 9) := by decide +kernel
theorem F_Fractions_orderTo_94 : fetch m_Fractions_orderTo 94 = some (.iload 12) := by decide +kernel
theorem F_Fractions_orderTo_96 : fetch m_Fractions_orderTo 96 = some (.ineg) := by decide +kernel
theorem F_Fractions_orderTo_97 : fetch m_Fractions_orderTo 97 = some (.goto 5) := by decide +kernel
theorem F_Fractions_orderTo_100 : fetch m_Fractions_orderTo 100 = some (.iload 12) := by decide +kernel
theorem F_Fractions_orderTo_102 : fetch m_Fractions_orderTo 102 = some (.ireturn) := by decide +kernel
theorem F_Fractions_orderTo_103 : fetch m_Fractions_orderTo 103 = some (.lload 4) := by decide +kernel
theorem F_Fractions_orderTo_105 : fetch m_Fractions_orderTo 105 = some (.lload 14) := by decide +kernel
theorem F_Fractions_orderTo_107 : fetch m_Fractions_orderTo 107 = some (.lload 6) := by decide +kernel
theorem F_Fractions_orderTo_109 : fetch m_Fractions_orderTo 109 = some (.lmul) := by decide +kernel
theorem F_Fractions_orderTo_110 : fetch m_Fractions_orderTo 110 = some (.lsub) := by decide +kernel
theorem F_Fractions_orderTo_111 : fetch m_Fractions_orderTo 111 = some (.lstore 18) := by decide +kernel
theorem F_Fractions_orderTo_113 : fetch m_Fractions_orderTo 113 = some (.lload 8) := by decide +kernel
theorem F_Fractions_orderTo_115 : fetch m_Fractions_orderTo 115 = some (.lload 16) := by decide +kernel
theorem F_Fractions_orderTo_117 : fetch m_Fractions_orderTo 117 = some (.lload 10) := by decide +kernel
theorem F_Fractions_orderTo_119 : fetch m_Fractions_orderTo 119 = some (.lmul) := by decide +kernel
theorem F_Fractions_orderTo_120 : fetch m_Fractions_orderTo 120 = some (.lsub) := by decide +kernel
theorem F_Fractions_orderTo_121 : fetch m_Fractions_orderTo 121 = some (.lstore 20) := by decide +kernel
theorem F_Fractions_orderTo_123 : fetch m_Fractions_orderTo 123 = some (.lload 18) := by decide +kernel
theorem F_Fractions_orderTo_125 : fetch m_Fractions_orderTo 125 = some (.lconst 0) := by decide +kernel
theorem F_Fractions_orderTo_126 : fetch m_Fractions_orderTo 126 = some (.lcmp) := by decide +kernel
theorem F_Fractions_orderTo_127 : fetch m_Fractions_orderTo 127 = some (.ifCond .eq 10) := by decide +kernel
theorem F_Fractions_orderTo_130 : fetch m_Fractions_orderTo 130 = some (.lload 20) := by decide +kernel
theorem F_Fractions_orderTo_132 : fetch m_Fractions_orderTo 132 = some (.lconst 0) := by decide +kernel
theorem F_Fractions_orderTo_133 : fetch m_Fractions_orderTo 133 = some (.lcmp) := by decide +kernel
theorem F_Fractions_orderTo_134 : fetch m_Fractions_orderTo 134 = some (.ifCond .ne 31) := by decide +kernel
theorem F_Fractions_orderTo_137 : fetch m_Fractions_orderTo 137 = some (.lload 18) := by decide +kernel
theorem F_Fractions_orderTo_139 : fetch m_Fractions_orderTo 139 = some (.lload 20) := by decide +kernel
theorem F_Fractions_orderTo_141 : fetch m_Fractions_orderTo 141 = some (.lcmp) := by decide +kernel
theorem F_Fractions_orderTo_142 : fetch m_Fractions_orderTo 142 = some (.ifCond .ne 7) := by decide +kernel
theorem F_Fractions_orderTo_145 : fetch m_Fractions_orderTo 145 = some (.iconst 0) := by decide +kernel
theorem F_Fractions_orderTo_146 : fetch m_Fractions_orderTo 146 = some (.goto 18) := by decide +kernel
theorem F_Fractions_orderTo_149 : fetch m_Fractions_orderTo 149 = some (.lload 18) := by decide +kernel
theorem F_Fractions_orderTo_151 : fetch m_Fractions_orderTo 151 = some (.lconst 0) := by decide +kernel
theorem F_Fractions_orderTo_152 : fetch m_Fractions_orderTo 152 = some (.lcmp) := by decide +kernel
theorem F_Fractions_orderTo_153 : fetch m_Fractions_orderTo 153 = some (.ifCond .ne 9) := by decide +kernel
theorem F_Fractions_orderTo_156 : fetch m_Fractions_orderTo 156 = some (.iload 12) := by decide +kernel
theorem F_Fractions_orderTo_158 : fetch m_Fractions_orderTo 158 = some (.ineg) := by decide +kernel
theorem F_Fractions_orderTo_159 : fetch m_Fractions_orderTo 159 = some (.goto 5) := by decide +kernel
theorem F_Fractions_orderTo_162 : fetch m_Fractions_orderTo 162 = some (.iload 12) := by decide +kernel
theorem F_Fractions_orderTo_164 : fetch m_Fractions_orderTo 164 = some (.ireturn) := by decide +kernel
theorem F_Fractions_orderTo_165 : fetch m_Fractions_orderTo 165 = some (.lload 6) := by decide +kernel
theorem F_Fractions_orderTo_167 : fetch m_Fractions_orderTo 167 = some (.lstore 4) := by decide +kernel
theorem F_Fractions_orderTo_169 : fetch m_Fractions_orderTo 169 = some (.lload 18) := by decide +kernel
theorem F_Fractions_orderTo_171 : fetch m_Fractions_orderTo 171 = some (.lstore 6) := by decide +kernel
theorem F_Fractions_orderTo_173 : fetch m_Fractions_orderTo 173 = some (.lload 10) := by decide +kernel
theorem F_Fractions_orderTo_175 : fetch m_Fractions_orderTo 175 = some (.lstore 8) := by decide +kernel
theorem F_Fractions_orderTo_177 : fetch m_Fractions_orderTo 177 = some (.lload 20) := by decide +kernel
theorem F_Fractions_orderTo_179 : fetch m_Fractions_orderTo 179 = some (.lstore 10) := by decide +kernel
theorem F_Fractions_orderTo_181 : fetch m_Fractions_orderTo 181 = some (.iload 12) := by decide +kernel
theorem F_Fractions_orderTo_183 : fetch m_Fractions_orderTo 183 = some (.ineg) := by decide +kernel
theorem F_Fractions_orderTo_184 : fetch m_Fractions_orderTo 184 = some (.istore 12) := by decide +kernel
theorem F_Fractions_orderTo_186 : fetch m_Fractions_orderTo 186 = some (.iinc 13 1) := by decide +kernel
theorem F_Fractions_orderTo_189 : fetch m_Fractions_orderTo 189 = some (.goto (-151)) := by decide +kernel
theorem F_Fractions_orderTo_192 : fetch m_Fractions_orderTo 192 = some (.iconst 0) := by decide +kernel
theorem F_Fractions_orderTo_193 : fetch m_Fractions_orderTo 193 = some (.ireturn) := by decide +kernel
theorem F_Math_floorDiv_0 : fetch m_Math_floorDiv 0 = some (.lload_n 0) := by decide +kernel
theorem F_Math_floorDiv_1 : fetch m_Math_floorDiv 1 = some (.lload_n 2) := by decide +kernel
theorem F_Math_floorDiv_2 : fetch m_Math_floorDiv 2 = some (.ldiv) := by decide +kernel
theorem F_Math_floorDiv_3 : fetch m_Math_floorDiv 3 = some (.lstore 4) := by decide +kernel
theorem F_Math_floorDiv_5 : fetch m_Math_floorDiv 5 = some (.lload_n 0) := by decide +kernel
theorem F_Math_floorDiv_6 : fetch m_Math_floorDiv 6 = some (.lload_n 2) := by decide +kernel
theorem F_Math_floorDiv_7 : fetch m_Math_floorDiv 7 = some (.lxor) := by decide +kernel
theorem F_Math_floorDiv_8 : fetch m_Math_floorDiv 8 = some (.lconst 0) := by decide +kernel
theorem F_Math_floorDiv_9 : fetch m_Math_floorDiv 9 = some (.lcmp) := by decide +kernel
theorem F_Math_floorDiv_10 : fetch m_Math_floorDiv 10 = some (.ifCond .ge 17) := by decide +kernel
theorem F_Math_floorDiv_13 : fetch m_Math_floorDiv 13 = some (.lload 4) := by decide +kernel
theorem F_Math_floorDiv_15 : fetch m_Math_floorDiv 15 = some (.lload_n 2) := by decide +kernel
theorem F_Math_floorDiv_16 : fetch m_Math_floorDiv 16 = some (.lmul) := by decide +kernel
theorem F_Math_floorDiv_17 : fetch m_Math_floorDiv 17 = some (.lload_n 0) := by decide +kernel
theorem F_Math_floorDiv_18 : fetch m_Math_floorDiv 18 = some (.lcmp) := by decide +kernel
theorem F_Math_floorDiv_19 : fetch m_Math_floorDiv 19 = some (.ifCond .eq 8) := by decide +kernel
theorem F_Math_floorDiv_22 : fetch m_Math_floorDiv 22 = some (.lload 4) := by decide +kernel
theorem F_Math_floorDiv_24 : fetch m_Math_floorDiv 24 = some (.lconst 1) := by decide +kernel
theorem F_Math_floorDiv_25 : fetch m_Math_floorDiv 25 = some (.lsub) := by decide +kernel
theorem F_Math_floorDiv_26 : fetch m_Math_floorDiv 26 = some (.lreturn) := by decide +kernel
theorem F_Math_floorDiv_27 : fetch m_Math_floorDiv 27 = some (.lload 4) := by decide +kernel
theorem F_Math_floorDiv_29 : fetch m_Math_floorDiv 29 = some (.lreturn) := by decide +kernel
theorem F_State_copyFrom_0 : fetch m_State_copyFrom 0 = some (.aload_n 0) := by decide +kernel
theorem F_State_copyFrom_1 : fetch m_State_copyFrom 1 = some (.aload_n 1) := by decide +kernel
theorem F_State_copyFrom_2 : fetch m_State_copyFrom 2 = some (.getfield 20) := by decide +kernel
theorem F_State_copyFrom_5 : fetch m_State_copyFrom 5 = some (.putfield 20) := by decide +kernel
theorem F_State_copyFrom_8 : fetch m_State_copyFrom 8 = some (.aload_n 0) := by decide +kernel
theorem F_State_copyFrom_9 : fetch m_State_copyFrom 9 = some (.getfield 14) := by decide +kernel
theorem F_State_copyFrom_12 : fetch m_State_copyFrom 12 = some (.aload_n 1) := by decide +kernel
theorem F_State_copyFrom_13 : fetch m_State_copyFrom 13 = some (.getfield 14) := by decide +kernel
theorem F_State_copyFrom_16 : fetch m_State_copyFrom 16 = some (.invokevirtual 24) := by decide +kernel
theorem F_State_copyFrom_19 : fetch m_State_copyFrom 19 = some (.return_) := by decide +kernel
theorem F_Fractions_copyAll_0 : fetch m_Fractions_copyAll 0 = some (.aload_n 1) := by decide +kernel
theorem F_Fractions_copyAll_1 : fetch m_Fractions_copyAll 1 = some (.getfield 9) := by decide +kernel
theorem F_Fractions_copyAll_4 : fetch m_Fractions_copyAll 4 = some (.iconst 0) := by decide +kernel
theorem F_Fractions_copyAll_5 : fetch m_Fractions_copyAll 5 = some (.aload_n 0) := by decide +kernel
theorem F_Fractions_copyAll_6 : fetch m_Fractions_copyAll 6 = some (.getfield 9) := by decide +kernel
theorem F_Fractions_copyAll_9 : fetch m_Fractions_copyAll 9 = some (.iconst 0) := by decide +kernel
theorem F_Fractions_copyAll_10 : fetch m_Fractions_copyAll 10 = some (.aload_n 0) := by decide +kernel
theorem F_Fractions_copyAll_11 : fetch m_Fractions_copyAll 11 = some (.getfield 9) := by decide +kernel
theorem F_Fractions_copyAll_14 : fetch m_Fractions_copyAll 14 = some (.arraylength) := by decide +kernel
theorem F_Fractions_copyAll_15 : fetch m_Fractions_copyAll 15 = some (.invokestatic 24) := by decide +kernel
theorem F_Fractions_copyAll_18 : fetch m_Fractions_copyAll 18 = some (.aload_n 1) := by decide +kernel
theorem F_Fractions_copyAll_19 : fetch m_Fractions_copyAll 19 = some (.getfield 15) := by decide +kernel
theorem F_Fractions_copyAll_22 : fetch m_Fractions_copyAll 22 = some (.iconst 0) := by decide +kernel
theorem F_Fractions_copyAll_23 : fetch m_Fractions_copyAll 23 = some (.aload_n 0) := by decide +kernel
theorem F_Fractions_copyAll_24 : fetch m_Fractions_copyAll 24 = some (.getfield 15) := by decide +kernel
theorem F_Fractions_copyAll_27 : fetch m_Fractions_copyAll 27 = some (.iconst 0) := by decide +kernel
theorem F_Fractions_copyAll_28 : fetch m_Fractions_copyAll 28 = some (.aload_n 0) := by decide +kernel
theorem F_Fractions_copyAll_29 : fetch m_Fractions_copyAll 29 = some (.getfield 15) := by decide +kernel
theorem F_Fractions_copyAll_32 : fetch m_Fractions_copyAll 32 = some (.arraylength) := by decide +kernel
theorem F_Fractions_copyAll_33 : fetch m_Fractions_copyAll 33 = some (.invokestatic 24) := by decide +kernel
theorem F_Fractions_copyAll_36 : fetch m_Fractions_copyAll 36 = some (.return_) := by decide +kernel
theorem F_ArrayList_get_0 : fetch m_ArrayList_get 0 = some (.iload_n 1) := by decide +kernel
theorem F_ArrayList_get_1 : fetch m_ArrayList_get 1 = some (.aload_n 0) := by decide +kernel
theorem F_ArrayList_get_2 : fetch m_ArrayList_get 2 = some (.getfield 48) := by decide +kernel
theorem F_ArrayList_get_5 : fetch m_ArrayList_get 5 = some (.invokestatic 118) := by decide +kernel
theorem F_ArrayList_get_8 : fetch m_ArrayList_get 8 = some (.pop) := by decide +kernel
theorem F_ArrayList_get_9 : fetch m_ArrayList_get 9 = some (.aload_n 0) := by decide +kernel
theorem F_ArrayList_get_10 : fetch m_ArrayList_get 10 = some (.iload_n 1) := by decide +kernel
theorem F_ArrayList_get_11 : fetch m_ArrayList_get 11 = some (.invokevirtual 123) := by decide +kernel
theorem F_ArrayList_get_14 : fetch m_ArrayList_get 14 = some (.areturn) := by decide +kernel
theorem F_Objects_checkIndex_0 : fetch m_Objects_checkIndex 0 = some (.iload_n 0) := by decide +kernel
theorem F_Objects_checkIndex_1 : fetch m_Objects_checkIndex 1 = some (.iload_n 1) := by decide +kernel
theorem F_Objects_checkIndex_2 : fetch m_Objects_checkIndex 2 = some (.aconst_null) := by decide +kernel
theorem F_Objects_checkIndex_3 : fetch m_Objects_checkIndex 3 = some (.invokestatic 105) := by decide +kernel
theorem F_Objects_checkIndex_6 : fetch m_Objects_checkIndex 6 = some (.ireturn) := by decide +kernel
theorem F_Preconditions_checkIndex_0 : fetch m_Preconditions_checkIndex 0 = some (.iload_n 0) := by decide +kernel
theorem F_Preconditions_checkIndex_1 : fetch m_Preconditions_checkIndex 1 = some (.ifCond .lt 8) := by decide +kernel
theorem F_Preconditions_checkIndex_4 : fetch m_Preconditions_checkIndex 4 = some (.iload_n 0) := by decide +kernel
theorem F_Preconditions_checkIndex_5 : fetch m_Preconditions_checkIndex 5 = some (.iload_n 1) := by decide +kernel
theorem F_Preconditions_checkIndex_6 : fetch m_Preconditions_checkIndex 6 = some (.if_icmp .lt 10) := by decide +kernel
theorem F_Preconditions_checkIndex_9 : fetch m_Preconditions_checkIndex 9 = some (.aload_n 2) := by decide +kernel
theorem F_Preconditions_checkIndex_10 : fetch m_Preconditions_checkIndex 10 = some (.iload_n 0) := by decide +kernel
theorem F_Preconditions_checkIndex_11 : fetch m_Preconditions_checkIndex 11 = some (.iload_n 1) := by decide +kernel
theorem F_Preconditions_checkIndex_12 : fetch m_Preconditions_checkIndex 12 = some (.invokestatic 95) := by decide +kernel
theorem F_Preconditions_checkIndex_15 : fetch m_Preconditions_checkIndex 15 = some (.athrow) := by decide +kernel
theorem F_Preconditions_checkIndex_16 : fetch m_Preconditions_checkIndex 16 = some (.iload_n 0) := by decide +kernel
theorem F_Preconditions_checkIndex_17 : fetch m_Preconditions_checkIndex 17 = some (.ireturn) := by decide +kernel
theorem F_ArrayList_elementData_0 : fetch m_ArrayList_elementData 0 = some (.aload_n 0) := by decide +kernel
theorem F_ArrayList_elementData_1 : fetch m_ArrayList_elementData 1 = some (.getfield 9) := by decide +kernel
theorem F_ArrayList_elementData_4 : fetch m_ArrayList_elementData 4 = some (.iload_n 1) := by decide +kernel
theorem F_ArrayList_elementData_5 : fetch m_ArrayList_elementData 5 = some (.aaload) := by decide +kernel
theorem F_ArrayList_elementData_6 : fetch m_ArrayList_elementData 6 = some (.areturn) := by decide +kernel
theorem F_State_hasFacts_0 : fetch m_State_hasFacts 0 = some (.aload_n 0) := by decide +kernel
theorem F_State_hasFacts_1 : fetch m_State_hasFacts 1 = some (.getfield 20) := by decide +kernel
theorem F_State_hasFacts_4 : fetch m_State_hasFacts 4 = some (.iload_n 1) := by decide +kernel
theorem F_State_hasFacts_5 : fetch m_State_hasFacts 5 = some (.iand) := by decide +kernel
theorem F_State_hasFacts_6 : fetch m_State_hasFacts 6 = some (.iload_n 1) := by decide +kernel
theorem F_State_hasFacts_7 : fetch m_State_hasFacts 7 = some (.if_icmp .ne 16) := by decide +kernel
theorem F_State_hasFacts_10 : fetch m_State_hasFacts 10 = some (.aload_n 0) := by decide +kernel
theorem F_State_hasFacts_11 : fetch m_State_hasFacts 11 = some (.getfield 20) := by decide +kernel
theorem F_State_hasFacts_14 : fetch m_State_hasFacts 14 = some (.iload_n 2) := by decide +kernel
theorem F_State_hasFacts_15 : fetch m_State_hasFacts 15 = some (.iand) := by decide +kernel
theorem F_State_hasFacts_16 : fetch m_State_hasFacts 16 = some (.ifCond .ne 7) := by decide +kernel
theorem F_State_hasFacts_19 : fetch m_State_hasFacts 19 = some (.iconst 1) := by decide +kernel
theorem F_State_hasFacts_20 : fetch m_State_hasFacts 20 = some (.goto 4) := by decide +kernel
theorem F_State_hasFacts_23 : fetch m_State_hasFacts 23 = some (.iconst 0) := by decide +kernel
theorem F_State_hasFacts_24 : fetch m_State_hasFacts 24 = some (.ireturn) := by decide +kernel
theorem F_Fractions_isSo_0 : fetch m_Fractions_isSo 0 = some (.aload_n 0) := by decide +kernel
theorem F_Fractions_isSo_1 : fetch m_Fractions_isSo 1 = some (.iload_n 1) := by decide +kernel
theorem F_Fractions_isSo_2 : fetch m_Fractions_isSo 2 = some (.aload_n 3) := by decide +kernel
theorem F_Fractions_isSo_3 : fetch m_Fractions_isSo 3 = some (.iload 4) := by decide +kernel
theorem F_Fractions_isSo_5 : fetch m_Fractions_isSo 5 = some (.invokevirtual 42) := by decide +kernel
theorem F_Fractions_isSo_8 : fetch m_Fractions_isSo 8 = some (.istore 5) := by decide +kernel
theorem F_Fractions_isSo_10 : fetch m_Fractions_isSo 10 = some (.iload_n 2) := by decide +kernel
theorem F_Fractions_isSo_11 : fetch m_Fractions_isSo 11 = some (.tableswitch 73 0 3 #[29, 40, 51, 62]) := by decide +kernel
theorem F_Fractions_isSo_40 : fetch m_Fractions_isSo 40 = some (.iload 5) := by decide +kernel
theorem F_Fractions_isSo_42 : fetch m_Fractions_isSo 42 = some (.ifCond .ge 7) := by decide +kernel
theorem F_Fractions_isSo_45 : fetch m_Fractions_isSo 45 = some (.iconst 1) := by decide +kernel
theorem F_Fractions_isSo_46 : fetch m_Fractions_isSo 46 = some (.goto 4) := by decide +kernel
theorem F_Fractions_isSo_49 : fetch m_Fractions_isSo 49 = some (.iconst 0) := by decide +kernel
theorem F_Fractions_isSo_50 : fetch m_Fractions_isSo 50 = some (.ireturn) := by decide +kernel
theorem F_Fractions_isSo_51 : fetch m_Fractions_isSo 51 = some (.iload 5) := by decide +kernel
theorem F_Fractions_isSo_53 : fetch m_Fractions_isSo 53 = some (.ifCond .gt 7) := by decide +kernel
theorem F_Fractions_isSo_56 : fetch m_Fractions_isSo 56 = some (.iconst 1) := by decide +kernel
theorem F_Fractions_isSo_57 : fetch m_Fractions_isSo 57 = some (.goto 4) := by decide +kernel
theorem F_Fractions_isSo_60 : fetch m_Fractions_isSo 60 = some (.iconst 0) := by decide +kernel
theorem F_Fractions_isSo_61 : fetch m_Fractions_isSo 61 = some (.ireturn) := by decide +kernel
theorem F_Fractions_isSo_62 : fetch m_Fractions_isSo 62 = some (.iload 5) := by decide +kernel
theorem F_Fractions_isSo_64 : fetch m_Fractions_isSo 64 = some (.ifCond .ne 7) := by decide +kernel
theorem F_Fractions_isSo_67 : fetch m_Fractions_isSo 67 = some (.iconst 1) := by decide +kernel
theorem F_Fractions_isSo_68 : fetch m_Fractions_isSo 68 = some (.goto 4) := by decide +kernel
theorem F_Fractions_isSo_71 : fetch m_Fractions_isSo 71 = some (.iconst 0) := by decide +kernel
theorem F_Fractions_isSo_72 : fetch m_Fractions_isSo 72 = some (.ireturn) := by decide +kernel
theorem F_Fractions_isSo_73 : fetch m_Fractions_isSo 73 = some (.iload 5) := by decide +kernel
theorem F_Fractions_isSo_75 : fetch m_Fractions_isSo 75 = some (.ifCond .lt 7) := by decide +kernel
theorem F_Fractions_isSo_78 : fetch m_Fractions_isSo 78 = some (.iconst 1) := by decide +kernel
theorem F_Fractions_isSo_79 : fetch m_Fractions_isSo 79 = some (.goto 4) := by decide +kernel
theorem F_Fractions_isSo_82 : fetch m_Fractions_isSo 82 = some (.iconst 0) := by decide +kernel
theorem F_Fractions_isSo_83 : fetch m_Fractions_isSo 83 = some (.ireturn) := by decide +kernel
theorem F_Fractions_isSo_84 : fetch m_Fractions_isSo 84 = some (.iload 5) := by decide +kernel
theorem F_Fractions_isSo_86 : fetch m_Fractions_isSo 86 = some (.ifCond .le 7) := by decide +kernel
theorem F_Fractions_isSo_89 : fetch m_Fractions_isSo 89 = some (.iconst 1) := by decide +kernel
theorem F_Fractions_isSo_90 : fetch m_Fractions_isSo 90 = some (.goto 4) := by decide +kernel
theorem F_Fractions_isSo_93 : fetch m_Fractions_isSo 93 = some (.iconst 0) := by decide +kernel
theorem F_Fractions_isSo_94 : fetch m_Fractions_isSo 94 = some (.ireturn) := by decide +kernel
theorem F_Fractions_isTooLong_0 : fetch m_Fractions_isTooLong 0 = some (.aload_n 0) := by decide +kernel
theorem F_Fractions_isTooLong_1 : fetch m_Fractions_isTooLong 1 = some (.getfield 9) := by decide +kernel
theorem F_Fractions_isTooLong_4 : fetch m_Fractions_isTooLong 4 = some (.iload_n 1) := by decide +kernel
theorem F_Fractions_isTooLong_5 : fetch m_Fractions_isTooLong 5 = some (.laload) := by decide +kernel
theorem F_Fractions_isTooLong_6 : fetch m_Fractions_isTooLong 6 = some (.ldc2_w 38) := by decide +kernel
theorem F_Fractions_isTooLong_9 : fetch m_Fractions_isTooLong 9 = some (.lcmp) := by decide +kernel
theorem F_Fractions_isTooLong_10 : fetch m_Fractions_isTooLong 10 = some (.ifCond .gt 29) := by decide +kernel
theorem F_Fractions_isTooLong_13 : fetch m_Fractions_isTooLong 13 = some (.aload_n 0) := by decide +kernel
theorem F_Fractions_isTooLong_14 : fetch m_Fractions_isTooLong 14 = some (.getfield 9) := by decide +kernel
theorem F_Fractions_isTooLong_17 : fetch m_Fractions_isTooLong 17 = some (.iload_n 1) := by decide +kernel
theorem F_Fractions_isTooLong_18 : fetch m_Fractions_isTooLong 18 = some (.laload) := by decide +kernel
theorem F_Fractions_isTooLong_19 : fetch m_Fractions_isTooLong 19 = some (.ldc2_w 40) := by decide +kernel
theorem F_Fractions_isTooLong_22 : fetch m_Fractions_isTooLong 22 = some (.lcmp) := by decide +kernel
theorem F_Fractions_isTooLong_23 : fetch m_Fractions_isTooLong 23 = some (.ifCond .lt 16) := by decide +kernel
theorem F_Fractions_isTooLong_26 : fetch m_Fractions_isTooLong 26 = some (.aload_n 0) := by decide +kernel
theorem F_Fractions_isTooLong_27 : fetch m_Fractions_isTooLong 27 = some (.getfield 15) := by decide +kernel
theorem F_Fractions_isTooLong_30 : fetch m_Fractions_isTooLong 30 = some (.iload_n 1) := by decide +kernel
theorem F_Fractions_isTooLong_31 : fetch m_Fractions_isTooLong 31 = some (.laload) := by decide +kernel
theorem F_Fractions_isTooLong_32 : fetch m_Fractions_isTooLong 32 = some (.ldc2_w 38) := by decide +kernel
theorem F_Fractions_isTooLong_35 : fetch m_Fractions_isTooLong 35 = some (.lcmp) := by decide +kernel
theorem F_Fractions_isTooLong_36 : fetch m_Fractions_isTooLong 36 = some (.ifCond .le 7) := by decide +kernel
theorem F_Fractions_isTooLong_39 : fetch m_Fractions_isTooLong 39 = some (.iconst 1) := by decide +kernel
theorem F_Fractions_isTooLong_40 : fetch m_Fractions_isTooLong 40 = some (.goto 4) := by decide +kernel
theorem F_Fractions_isTooLong_43 : fetch m_Fractions_isTooLong 43 = some (.iconst 0) := by decide +kernel
theorem F_Fractions_isTooLong_44 : fetch m_Fractions_isTooLong 44 = some (.ireturn) := by decide +kernel
theorem F_Task_isGoalMet_0 : fetch m_Task_isGoalMet 0 = some (.aload_n 1) := by decide +kernel
theorem F_Task_isGoalMet_1 : fetch m_Task_isGoalMet 1 = some (.aload_n 0) := by decide +kernel
theorem F_Task_isGoalMet_2 : fetch m_Task_isGoalMet 2 = some (.getfield 53) := by decide +kernel
theorem F_Task_isGoalMet_5 : fetch m_Task_isGoalMet 5 = some (.aload_n 0) := by decide +kernel
theorem F_Task_isGoalMet_6 : fetch m_Task_isGoalMet 6 = some (.getfield 61) := by decide +kernel
theorem F_Task_isGoalMet_9 : fetch m_Task_isGoalMet 9 = some (.invokevirtual 64) := by decide +kernel
theorem F_Task_isGoalMet_12 : fetch m_Task_isGoalMet 12 = some (.ifCond .ne 5) := by decide +kernel
theorem F_Task_isGoalMet_15 : fetch m_Task_isGoalMet 15 = some (.iconst 0) := by decide +kernel
theorem F_Task_isGoalMet_16 : fetch m_Task_isGoalMet 16 = some (.ireturn) := by decide +kernel
theorem F_Task_isGoalMet_17 : fetch m_Task_isGoalMet 17 = some (.iconst 0) := by decide +kernel
theorem F_Task_isGoalMet_18 : fetch m_Task_isGoalMet 18 = some (.istore_n 2) := by decide +kernel
theorem F_Task_isGoalMet_19 : fetch m_Task_isGoalMet 19 = some (.iload_n 2) := by decide +kernel
theorem F_Task_isGoalMet_20 : fetch m_Task_isGoalMet 20 = some (.bipush 8) := by decide +kernel
theorem F_Task_isGoalMet_22 : fetch m_Task_isGoalMet 22 = some (.if_icmp .ge 43) := by decide +kernel
theorem F_Task_isGoalMet_25 : fetch m_Task_isGoalMet 25 = some (.aload_n 0) := by decide +kernel
theorem F_Task_isGoalMet_26 : fetch m_Task_isGoalMet 26 = some (.getfield 34) := by decide +kernel
theorem F_Task_isGoalMet_29 : fetch m_Task_isGoalMet 29 = some (.iload_n 2) := by decide +kernel
theorem F_Task_isGoalMet_30 : fetch m_Task_isGoalMet 30 = some (.iaload) := by decide +kernel
theorem F_Task_isGoalMet_31 : fetch m_Task_isGoalMet 31 = some (.iconst (-1)) := by decide +kernel
theorem F_Task_isGoalMet_32 : fetch m_Task_isGoalMet 32 = some (.if_icmp .eq 27) := by decide +kernel
theorem F_Task_isGoalMet_35 : fetch m_Task_isGoalMet 35 = some (.aload_n 1) := by decide +kernel
theorem F_Task_isGoalMet_36 : fetch m_Task_isGoalMet 36 = some (.getfield 68) := by decide +kernel
theorem F_Task_isGoalMet_39 : fetch m_Task_isGoalMet 39 = some (.iload_n 2) := by decide +kernel
theorem F_Task_isGoalMet_40 : fetch m_Task_isGoalMet 40 = some (.aload_n 0) := by decide +kernel
theorem F_Task_isGoalMet_41 : fetch m_Task_isGoalMet 41 = some (.getfield 34) := by decide +kernel
theorem F_Task_isGoalMet_44 : fetch m_Task_isGoalMet 44 = some (.iload_n 2) := by decide +kernel
theorem F_Task_isGoalMet_45 : fetch m_Task_isGoalMet 45 = some (.iaload) := by decide +kernel
theorem F_Task_isGoalMet_46 : fetch m_Task_isGoalMet 46 = some (.aload_n 0) := by decide +kernel
theorem F_Task_isGoalMet_47 : fetch m_Task_isGoalMet 47 = some (.getfield 38) := by decide +kernel
theorem F_Task_isGoalMet_50 : fetch m_Task_isGoalMet 50 = some (.iload_n 2) := by decide +kernel
theorem F_Task_isGoalMet_51 : fetch m_Task_isGoalMet 51 = some (.invokevirtual 71) := by decide +kernel
theorem F_Task_isGoalMet_54 : fetch m_Task_isGoalMet 54 = some (.ifCond .ne 5) := by decide +kernel
theorem F_Task_isGoalMet_57 : fetch m_Task_isGoalMet 57 = some (.iconst 0) := by decide +kernel
theorem F_Task_isGoalMet_58 : fetch m_Task_isGoalMet 58 = some (.ireturn) := by decide +kernel
theorem F_Task_isGoalMet_59 : fetch m_Task_isGoalMet 59 = some (.iinc 2 1) := by decide +kernel
theorem F_Task_isGoalMet_62 : fetch m_Task_isGoalMet 62 = some (.goto (-43)) := by decide +kernel
theorem F_Task_isGoalMet_65 : fetch m_Task_isGoalMet 65 = some (.iconst 1) := by decide +kernel
theorem F_Task_isGoalMet_66 : fetch m_Task_isGoalMet 66 = some (.ireturn) := by decide +kernel
theorem F_Verdict_write_0 : fetch m_Verdict_write 0 = some (.aload_n 0) := by decide +kernel
theorem F_Verdict_write_1 : fetch m_Verdict_write 1 = some (.iconst 1) := by decide +kernel
theorem F_Verdict_write_2 : fetch m_Verdict_write 2 = some (.putfield 22) := by decide +kernel
theorem F_Verdict_write_5 : fetch m_Verdict_write 5 = some (.aload_n 0) := by decide +kernel
theorem F_Verdict_write_6 : fetch m_Verdict_write 6 = some (.iload_n 1) := by decide +kernel
theorem F_Verdict_write_7 : fetch m_Verdict_write 7 = some (.putfield 26) := by decide +kernel
theorem F_Verdict_write_10 : fetch m_Verdict_write 10 = some (.aload_n 0) := by decide +kernel
theorem F_Verdict_write_11 : fetch m_Verdict_write 11 = some (.iload_n 2) := by decide +kernel
theorem F_Verdict_write_12 : fetch m_Verdict_write 12 = some (.putfield 9) := by decide +kernel
theorem F_Verdict_write_15 : fetch m_Verdict_write 15 = some (.aload_n 0) := by decide +kernel
theorem F_Verdict_write_16 : fetch m_Verdict_write 16 = some (.getfield 18) := by decide +kernel
theorem F_Verdict_write_19 : fetch m_Verdict_write 19 = some (.aload_n 3) := by decide +kernel
theorem F_Verdict_write_20 : fetch m_Verdict_write 20 = some (.invokevirtual 29) := by decide +kernel
theorem F_Verdict_write_23 : fetch m_Verdict_write 23 = some (.return_) := by decide +kernel
theorem F_Plan_dropLastPoint_0 : fetch m_Plan_dropLastPoint 0 = some (.aload_n 0) := by decide +kernel
theorem F_Plan_dropLastPoint_1 : fetch m_Plan_dropLastPoint 1 = some (.dup) := by decide +kernel
theorem F_Plan_dropLastPoint_2 : fetch m_Plan_dropLastPoint 2 = some (.getfield 34) := by decide +kernel
theorem F_Plan_dropLastPoint_5 : fetch m_Plan_dropLastPoint 5 = some (.iconst 1) := by decide +kernel
theorem F_Plan_dropLastPoint_6 : fetch m_Plan_dropLastPoint 6 = some (.isub) := by decide +kernel
theorem F_Plan_dropLastPoint_7 : fetch m_Plan_dropLastPoint 7 = some (.putfield 34) := by decide +kernel
theorem F_Plan_dropLastPoint_10 : fetch m_Plan_dropLastPoint 10 = some (.aload_n 0) := by decide +kernel
theorem F_Plan_dropLastPoint_11 : fetch m_Plan_dropLastPoint 11 = some (.dup) := by decide +kernel
theorem F_Plan_dropLastPoint_12 : fetch m_Plan_dropLastPoint 12 = some (.getfield 37) := by decide +kernel
theorem F_Plan_dropLastPoint_15 : fetch m_Plan_dropLastPoint 15 = some (.iconst 1) := by decide +kernel
theorem F_Plan_dropLastPoint_16 : fetch m_Plan_dropLastPoint 16 = some (.aload_n 0) := by decide +kernel
theorem F_Plan_dropLastPoint_17 : fetch m_Plan_dropLastPoint 17 = some (.getfield 27) := by decide +kernel
theorem F_Plan_dropLastPoint_20 : fetch m_Plan_dropLastPoint 20 = some (.aload_n 0) := by decide +kernel
theorem F_Plan_dropLastPoint_21 : fetch m_Plan_dropLastPoint 21 = some (.getfield 34) := by decide +kernel
theorem F_Plan_dropLastPoint_24 : fetch m_Plan_dropLastPoint 24 = some (.iaload) := by decide +kernel
theorem F_Plan_dropLastPoint_25 : fetch m_Plan_dropLastPoint 25 = some (.ishl) := by decide +kernel
theorem F_Plan_dropLastPoint_26 : fetch m_Plan_dropLastPoint 26 = some (.iconst (-1)) := by decide +kernel
theorem F_Plan_dropLastPoint_27 : fetch m_Plan_dropLastPoint 27 = some (.ixor) := by decide +kernel
theorem F_Plan_dropLastPoint_28 : fetch m_Plan_dropLastPoint 28 = some (.iand) := by decide +kernel
theorem F_Plan_dropLastPoint_29 : fetch m_Plan_dropLastPoint 29 = some (.putfield 37) := by decide +kernel
theorem F_Plan_dropLastPoint_32 : fetch m_Plan_dropLastPoint 32 = some (.aload_n 0) := by decide +kernel
theorem F_Plan_dropLastPoint_33 : fetch m_Plan_dropLastPoint 33 = some (.getfield 27) := by decide +kernel
theorem F_Plan_dropLastPoint_36 : fetch m_Plan_dropLastPoint 36 = some (.aload_n 0) := by decide +kernel
theorem F_Plan_dropLastPoint_37 : fetch m_Plan_dropLastPoint 37 = some (.getfield 34) := by decide +kernel
theorem F_Plan_dropLastPoint_40 : fetch m_Plan_dropLastPoint 40 = some (.iaload) := by decide +kernel
theorem F_Plan_dropLastPoint_41 : fetch m_Plan_dropLastPoint 41 = some (.ireturn) := by decide +kernel
theorem F_Task_wishFact_0 : fetch m_Task_wishFact 0 = some (.aload_n 0) := by decide +kernel
theorem F_Task_wishFact_1 : fetch m_Task_wishFact 1 = some (.aload_n 0) := by decide +kernel
theorem F_Task_wishFact_2 : fetch m_Task_wishFact 2 = some (.getfield 53) := by decide +kernel
theorem F_Task_wishFact_5 : fetch m_Task_wishFact 5 = some (.iload_n 1) := by decide +kernel
theorem F_Task_wishFact_6 : fetch m_Task_wishFact 6 = some (.invokestatic 57) := by decide +kernel
theorem F_Task_wishFact_9 : fetch m_Task_wishFact 9 = some (.iconst (-1)) := by decide +kernel
theorem F_Task_wishFact_10 : fetch m_Task_wishFact 10 = some (.ixor) := by decide +kernel
theorem F_Task_wishFact_11 : fetch m_Task_wishFact 11 = some (.iand) := by decide +kernel
theorem F_Task_wishFact_12 : fetch m_Task_wishFact 12 = some (.iload_n 2) := by decide +kernel
theorem F_Task_wishFact_13 : fetch m_Task_wishFact 13 = some (.iconst 1) := by decide +kernel
theorem F_Task_wishFact_14 : fetch m_Task_wishFact 14 = some (.if_icmp .ne 10) := by decide +kernel
theorem F_Task_wishFact_17 : fetch m_Task_wishFact 17 = some (.iload_n 1) := by decide +kernel
theorem F_Task_wishFact_18 : fetch m_Task_wishFact 18 = some (.invokestatic 57) := by decide +kernel
theorem F_Task_wishFact_21 : fetch m_Task_wishFact 21 = some (.goto 4) := by decide +kernel
theorem F_Task_wishFact_24 : fetch m_Task_wishFact 24 = some (.iconst 0) := by decide +kernel
theorem F_Task_wishFact_25 : fetch m_Task_wishFact 25 = some (.ior) := by decide +kernel
theorem F_Task_wishFact_26 : fetch m_Task_wishFact 26 = some (.putfield 53) := by decide +kernel
theorem F_Task_wishFact_29 : fetch m_Task_wishFact 29 = some (.aload_n 0) := by decide +kernel
theorem F_Task_wishFact_30 : fetch m_Task_wishFact 30 = some (.aload_n 0) := by decide +kernel
theorem F_Task_wishFact_31 : fetch m_Task_wishFact 31 = some (.getfield 61) := by decide +kernel
theorem F_Task_wishFact_34 : fetch m_Task_wishFact 34 = some (.iload_n 1) := by decide +kernel
theorem F_Task_wishFact_35 : fetch m_Task_wishFact 35 = some (.invokestatic 57) := by decide +kernel
theorem F_Task_wishFact_38 : fetch m_Task_wishFact 38 = some (.iconst (-1)) := by decide +kernel
theorem F_Task_wishFact_39 : fetch m_Task_wishFact 39 = some (.ixor) := by decide +kernel
theorem F_Task_wishFact_40 : fetch m_Task_wishFact 40 = some (.iand) := by decide +kernel
theorem F_Task_wishFact_41 : fetch m_Task_wishFact 41 = some (.iload_n 2) := by decide +kernel
theorem F_Task_wishFact_42 : fetch m_Task_wishFact 42 = some (.ifCond .ne 10) := by decide +kernel
theorem F_Task_wishFact_45 : fetch m_Task_wishFact 45 = some (.iload_n 1) := by decide +kernel
theorem F_Task_wishFact_46 : fetch m_Task_wishFact 46 = some (.invokestatic 57) := by decide +kernel
theorem F_Task_wishFact_49 : fetch m_Task_wishFact 49 = some (.goto 4) := by decide +kernel
theorem F_Task_wishFact_52 : fetch m_Task_wishFact 52 = some (.iconst 0) := by decide +kernel
theorem F_Task_wishFact_53 : fetch m_Task_wishFact 53 = some (.ior) := by decide +kernel
theorem F_Task_wishFact_54 : fetch m_Task_wishFact 54 = some (.putfield 61) := by decide +kernel
theorem F_Task_wishFact_57 : fetch m_Task_wishFact 57 = some (.return_) := by decide +kernel
theorem F_ArrayList_size_0 : fetch m_ArrayList_size 0 = some (.aload_n 0) := by decide +kernel
theorem F_ArrayList_size_1 : fetch m_ArrayList_size 1 = some (.getfield 48) := by decide +kernel
theorem F_ArrayList_size_4 : fetch m_ArrayList_size 4 = some (.ireturn) := by decide +kernel
theorem F_Terms_init_0 : fetch m_Terms_init 0 = some (.aload_n 0) := by decide +kernel
theorem F_Terms_init_1 : fetch m_Terms_init 1 = some (.invokespecial 3) := by decide +kernel
theorem F_Terms_init_4 : fetch m_Terms_init 4 = some (.aload_n 0) := by decide +kernel
theorem F_Terms_init_5 : fetch m_Terms_init 5 = some (.iload_n 1) := by decide +kernel
theorem F_Terms_init_6 : fetch m_Terms_init 6 = some (.newarray .int) := by decide +kernel
theorem F_Terms_init_8 : fetch m_Terms_init 8 = some (.putfield 9) := by decide +kernel
theorem F_Terms_init_11 : fetch m_Terms_init 11 = some (.aload_n 0) := by decide +kernel
theorem F_Terms_init_12 : fetch m_Terms_init 12 = some (.iload_n 1) := by decide +kernel
theorem F_Terms_init_13 : fetch m_Terms_init 13 = some (.newarray .int) := by decide +kernel
theorem F_Terms_init_15 : fetch m_Terms_init 15 = some (.putfield 15) := by decide +kernel
theorem F_Terms_init_18 : fetch m_Terms_init 18 = some (.aload_n 0) := by decide +kernel
theorem F_Terms_init_19 : fetch m_Terms_init 19 = some (.iload_n 1) := by decide +kernel
theorem F_Terms_init_20 : fetch m_Terms_init 20 = some (.newarray .int) := by decide +kernel
theorem F_Terms_init_22 : fetch m_Terms_init 22 = some (.putfield 18) := by decide +kernel
theorem F_Terms_init_25 : fetch m_Terms_init 25 = some (.aload_n 0) := by decide +kernel
theorem F_Terms_init_26 : fetch m_Terms_init 26 = some (.new 21) := by decide +kernel
theorem F_Terms_init_29 : fetch m_Terms_init 29 = some (.dup) := by decide +kernel
theorem F_Terms_init_30 : fetch m_Terms_init 30 = some (.iload_n 1) := by decide +kernel
theorem F_Terms_init_31 : fetch m_Terms_init 31 = some (.invokespecial 23) := by decide +kernel
theorem F_Terms_init_34 : fetch m_Terms_init 34 = some (.putfield 26) := by decide +kernel
theorem F_Terms_init_37 : fetch m_Terms_init 37 = some (.return_) := by decide +kernel
theorem F_ArrayList_add_0 : fetch m_ArrayList_add 0 = some (.aload_n 0) := by decide +kernel
theorem F_ArrayList_add_1 : fetch m_ArrayList_add 1 = some (.dup) := by decide +kernel
theorem F_ArrayList_add_2 : fetch m_ArrayList_add 2 = some (.getfield 63) := by decide +kernel
theorem F_ArrayList_add_5 : fetch m_ArrayList_add 5 = some (.iconst 1) := by decide +kernel
theorem F_ArrayList_add_6 : fetch m_ArrayList_add 6 = some (.iadd) := by decide +kernel
theorem F_ArrayList_add_7 : fetch m_ArrayList_add 7 = some (.putfield 63) := by decide +kernel
theorem F_ArrayList_add_10 : fetch m_ArrayList_add 10 = some (.aload_n 0) := by decide +kernel
theorem F_ArrayList_add_11 : fetch m_ArrayList_add 11 = some (.aload_n 1) := by decide +kernel
theorem F_ArrayList_add_12 : fetch m_ArrayList_add 12 = some (.aload_n 0) := by decide +kernel
theorem F_ArrayList_add_13 : fetch m_ArrayList_add 13 = some (.getfield 9) := by decide +kernel
theorem F_ArrayList_add_16 : fetch m_ArrayList_add 16 = some (.aload_n 0) := by decide +kernel
theorem F_ArrayList_add_17 : fetch m_ArrayList_add 17 = some (.getfield 48) := by decide +kernel
theorem F_ArrayList_add_20 : fetch m_ArrayList_add 20 = some (.invokevirtual 131) := by decide +kernel
theorem F_ArrayList_add_23 : fetch m_ArrayList_add 23 = some (.iconst 1) := by decide +kernel
theorem F_ArrayList_add_24 : fetch m_ArrayList_add 24 = some (.ireturn) := by decide +kernel
theorem F_ArrayList_add2_0 : fetch m_ArrayList_add2 0 = some (.iload_n 3) := by decide +kernel
theorem F_ArrayList_add2_1 : fetch m_ArrayList_add2 1 = some (.aload_n 2) := by decide +kernel
theorem F_ArrayList_add2_2 : fetch m_ArrayList_add2 2 = some (.arraylength) := by decide +kernel
theorem F_ArrayList_add2_3 : fetch m_ArrayList_add2 3 = some (.if_icmp .ne 8) := by decide +kernel
theorem F_ArrayList_add2_6 : fetch m_ArrayList_add2 6 = some (.aload_n 0) := by decide +kernel
theorem F_ArrayList_add2_7 : fetch m_ArrayList_add2 7 = some (.invokevirtual 129) := by decide +kernel
theorem F_ArrayList_add2_10 : fetch m_ArrayList_add2 10 = some (.astore_n 2) := by decide +kernel
theorem F_ArrayList_add2_11 : fetch m_ArrayList_add2 11 = some (.aload_n 2) := by decide +kernel
theorem F_ArrayList_add2_12 : fetch m_ArrayList_add2 12 = some (.iload_n 3) := by decide +kernel
theorem F_ArrayList_add2_13 : fetch m_ArrayList_add2 13 = some (.aload_n 1) := by decide +kernel
theorem F_ArrayList_add2_14 : fetch m_ArrayList_add2 14 = some (.aastore) := by decide +kernel
theorem F_ArrayList_add2_15 : fetch m_ArrayList_add2 15 = some (.aload_n 0) := by decide +kernel
theorem F_ArrayList_add2_16 : fetch m_ArrayList_add2 16 = some (.iload_n 3) := by decide +kernel
theorem F_ArrayList_add2_17 : fetch m_ArrayList_add2 17 = some (.iconst 1) := by decide +kernel
theorem F_ArrayList_add2_18 : fetch m_ArrayList_add2 18 = some (.iadd) := by decide +kernel
theorem F_ArrayList_add2_19 : fetch m_ArrayList_add2 19 = some (.putfield 48) := by decide +kernel
theorem F_ArrayList_add2_22 : fetch m_ArrayList_add2 22 = some (.return_) := by decide +kernel
theorem F_ArrayList_grow_0 : fetch m_ArrayList_grow 0 = some (.aload_n 0) := by decide +kernel
theorem F_ArrayList_grow_1 : fetch m_ArrayList_grow 1 = some (.aload_n 0) := by decide +kernel
theorem F_ArrayList_grow_2 : fetch m_ArrayList_grow 2 = some (.getfield 48) := by decide +kernel
theorem F_ArrayList_grow_5 : fetch m_ArrayList_grow 5 = some (.iconst 1) := by decide +kernel
theorem F_ArrayList_grow_6 : fetch m_ArrayList_grow 6 = some (.iadd) := by decide +kernel
theorem F_ArrayList_grow_7 : fetch m_ArrayList_grow 7 = some (.invokevirtual 69) := by decide +kernel
theorem F_ArrayList_grow_10 : fetch m_ArrayList_grow 10 = some (.areturn) := by decide +kernel
theorem F_ArrayList_grow2_0 : fetch m_ArrayList_grow2 0 = some (.aload_n 0) := by decide +kernel
theorem F_ArrayList_grow2_1 : fetch m_ArrayList_grow2 1 = some (.getfield 9) := by decide +kernel
theorem F_ArrayList_grow2_4 : fetch m_ArrayList_grow2 4 = some (.arraylength) := by decide +kernel
theorem F_ArrayList_grow2_5 : fetch m_ArrayList_grow2 5 = some (.istore_n 2) := by decide +kernel
theorem F_ArrayList_grow2_6 : fetch m_ArrayList_grow2 6 = some (.iload_n 2) := by decide +kernel
theorem F_ArrayList_grow2_7 : fetch m_ArrayList_grow2 7 = some (.ifCond .gt 13) := by decide +kernel
theorem F_ArrayList_grow2_10 : fetch m_ArrayList_grow2 10 = some (.aload_n 0) := by decide +kernel
theorem F_ArrayList_grow2_11 : fetch m_ArrayList_grow2 11 = some (.getfield 9) := by decide +kernel
theorem F_ArrayList_grow2_14 : fetch m_ArrayList_grow2 14 = some (.getstatic 39) := by decide +kernel
theorem F_ArrayList_grow2_17 : fetch m_ArrayList_grow2 17 = some (.if_acmp .eq 28) := by decide +kernel
theorem F_ArrayList_grow2_20 : fetch m_ArrayList_grow2 20 = some (.iload_n 2) := by decide +kernel
theorem F_ArrayList_grow2_21 : fetch m_ArrayList_grow2 21 = some (.iload_n 1) := by decide +kernel
theorem F_ArrayList_grow2_22 : fetch m_ArrayList_grow2 22 = some (.iload_n 2) := by decide +kernel
theorem F_ArrayList_grow2_23 : fetch m_ArrayList_grow2 23 = some (.isub) := by decide +kernel
theorem F_ArrayList_grow2_24 : fetch m_ArrayList_grow2 24 = some (.iload_n 2) := by decide +kernel
theorem F_ArrayList_grow2_25 : fetch m_ArrayList_grow2 25 = some (.iconst 1) := by decide +kernel
theorem F_ArrayList_grow2_26 : fetch m_ArrayList_grow2 26 = some (.ishr) := by decide +kernel
theorem F_ArrayList_grow2_27 : fetch m_ArrayList_grow2 27 = some (.invokestatic 73) := by decide +kernel
theorem F_ArrayList_grow2_30 : fetch m_ArrayList_grow2 30 = some (.istore_n 3) := by decide +kernel
theorem F_ArrayList_grow2_31 : fetch m_ArrayList_grow2 31 = some (.aload_n 0) := by decide +kernel
theorem F_ArrayList_grow2_32 : fetch m_ArrayList_grow2 32 = some (.aload_n 0) := by decide +kernel
theorem F_ArrayList_grow2_33 : fetch m_ArrayList_grow2 33 = some (.getfield 9) := by decide +kernel
theorem F_ArrayList_grow2_36 : fetch m_ArrayList_grow2 36 = some (.iload_n 3) := by decide +kernel
theorem F_ArrayList_grow2_37 : fetch m_ArrayList_grow2 37 = some (.invokestatic 66) := by decide +kernel
theorem F_ArrayList_grow2_40 : fetch m_ArrayList_grow2 40 = some (.dup_x1) := by decide +kernel
theorem F_ArrayList_grow2_41 : fetch m_ArrayList_grow2 41 = some (.putfield 9) := by decide +kernel
theorem F_ArrayList_grow2_44 : fetch m_ArrayList_grow2 44 = some (.areturn) := by decide +kernel
theorem F_ArrayList_grow2_45 : fetch m_ArrayList_grow2 45 = some (.aload_n 0) := by decide +kernel
theorem F_ArrayList_grow2_46 : fetch m_ArrayList_grow2 46 = some (.bipush 10) := by decide +kernel
theorem F_ArrayList_grow2_48 : fetch m_ArrayList_grow2 48 = some (.iload_n 1) := by decide +kernel
theorem F_ArrayList_grow2_49 : fetch m_ArrayList_grow2 49 = some (.invokestatic 79) := by decide +kernel
theorem F_ArrayList_grow2_52 : fetch m_ArrayList_grow2 52 = some (.anewarray 7) := by decide +kernel
theorem F_ArrayList_grow2_55 : fetch m_ArrayList_grow2 55 = some (.dup_x1) := by decide +kernel
theorem F_ArrayList_grow2_56 : fetch m_ArrayList_grow2 56 = some (.putfield 9) := by decide +kernel
theorem F_ArrayList_grow2_59 : fetch m_ArrayList_grow2 59 = some (.areturn) := by decide +kernel
theorem F_ArraysSupport_newLength_0 : fetch m_ArraysSupport_newLength 0 = some (.iload_n 0) := by decide +kernel
theorem F_ArraysSupport_newLength_1 : fetch m_ArraysSupport_newLength 1 = some (.iload_n 1) := by decide +kernel
theorem F_ArraysSupport_newLength_2 : fetch m_ArraysSupport_newLength 2 = some (.iload_n 2) := by decide +kernel
theorem F_ArraysSupport_newLength_3 : fetch m_ArraysSupport_newLength 3 = some (.invokestatic 194) := by decide +kernel
theorem F_ArraysSupport_newLength_6 : fetch m_ArraysSupport_newLength 6 = some (.iadd) := by decide +kernel
theorem F_ArraysSupport_newLength_7 : fetch m_ArraysSupport_newLength 7 = some (.istore_n 3) := by decide +kernel
theorem F_ArraysSupport_newLength_8 : fetch m_ArraysSupport_newLength 8 = some (.iconst 0) := by decide +kernel
theorem F_ArraysSupport_newLength_9 : fetch m_ArraysSupport_newLength 9 = some (.iload_n 3) := by decide +kernel
theorem F_ArraysSupport_newLength_10 : fetch m_ArraysSupport_newLength 10 = some (.if_icmp .ge 11) := by decide +kernel
theorem F_ArraysSupport_newLength_13 : fetch m_ArraysSupport_newLength 13 = some (.iload_n 3) := by decide +kernel
theorem F_ArraysSupport_newLength_14 : fetch m_ArraysSupport_newLength 14 = some (.ldc 200) := by decide +kernel
theorem F_ArraysSupport_newLength_16 : fetch m_ArraysSupport_newLength 16 = some (.if_icmp .gt 5) := by decide +kernel
theorem F_ArraysSupport_newLength_19 : fetch m_ArraysSupport_newLength 19 = some (.iload_n 3) := by decide +kernel
theorem F_ArraysSupport_newLength_20 : fetch m_ArraysSupport_newLength 20 = some (.ireturn) := by decide +kernel
theorem F_ArraysSupport_newLength_21 : fetch m_ArraysSupport_newLength 21 = some (.iload_n 0) := by decide +kernel
theorem F_ArraysSupport_newLength_22 : fetch m_ArraysSupport_newLength 22 = some (.iload_n 1) := by decide +kernel
theorem F_ArraysSupport_newLength_23 : fetch m_ArraysSupport_newLength 23 = some (.invokestatic 201) := by decide +kernel
theorem F_ArraysSupport_newLength_26 : fetch m_ArraysSupport_newLength 26 = some (.ireturn) := by decide +kernel
theorem F_Math_max_0 : fetch m_Math_max 0 = some (.iload_n 0) := by decide +kernel
theorem F_Math_max_1 : fetch m_Math_max 1 = some (.iload_n 1) := by decide +kernel
theorem F_Math_max_2 : fetch m_Math_max 2 = some (.if_icmp .lt 7) := by decide +kernel
theorem F_Math_max_5 : fetch m_Math_max 5 = some (.iload_n 0) := by decide +kernel
theorem F_Math_max_6 : fetch m_Math_max 6 = some (.goto 4) := by decide +kernel
theorem F_Math_max_9 : fetch m_Math_max 9 = some (.iload_n 1) := by decide +kernel
theorem F_Math_max_10 : fetch m_Math_max 10 = some (.ireturn) := by decide +kernel
theorem F_ArraysSupport_hugeLength_0 : fetch m_ArraysSupport_hugeLength 0 = some (.iload_n 0) := by decide +kernel
theorem F_ArraysSupport_hugeLength_1 : fetch m_ArraysSupport_hugeLength 1 = some (.iload_n 1) := by decide +kernel
theorem F_ArraysSupport_hugeLength_2 : fetch m_ArraysSupport_hugeLength 2 = some (.iadd) := by decide +kernel
theorem F_ArraysSupport_hugeLength_3 : fetch m_ArraysSupport_hugeLength 3 = some (.istore_n 2) := by decide +kernel
theorem F_ArraysSupport_hugeLength_4 : fetch m_ArraysSupport_hugeLength 4 = some (.iload_n 2) := by decide +kernel
theorem F_ArraysSupport_hugeLength_5 : fetch m_ArraysSupport_hugeLength 5 = some (.ifCond .ge 44) := by decide +kernel
theorem F_ArraysSupport_hugeLength_8 : fetch m_ArraysSupport_hugeLength 8 = some (.new 204) := by decide +kernel
theorem F_ArraysSupport_hugeLength_11 : fetch m_ArraysSupport_hugeLength 11 = some (.dup) := by decide +kernel
theorem F_ArraysSupport_hugeLength_12 : fetch m_ArraysSupport_hugeLength 12 = some (.new 89) := by decide +kernel
theorem F_ArraysSupport_hugeLength_15 : fetch m_ArraysSupport_hugeLength 15 = some (.dup) := by decide +kernel
theorem F_ArraysSupport_hugeLength_16 : fetch m_ArraysSupport_hugeLength 16 = some (.invokespecial 91) := by decide +kernel
theorem F_ArraysSupport_hugeLength_19 : fetch m_ArraysSupport_hugeLength 19 = some (.ldc 206) := by decide +kernel
theorem F_ArraysSupport_hugeLength_21 : fetch m_ArraysSupport_hugeLength 21 = some (.invokevirtual 94) := by decide +kernel
theorem F_ArraysSupport_hugeLength_24 : fetch m_ArraysSupport_hugeLength 24 = some (.iload_n 0) := by decide +kernel
theorem F_ArraysSupport_hugeLength_25 : fetch m_ArraysSupport_hugeLength 25 = some (.invokevirtual 98) := by decide +kernel
theorem F_ArraysSupport_hugeLength_28 : fetch m_ArraysSupport_hugeLength 28 = some (.ldc 208) := by decide +kernel
theorem F_ArraysSupport_hugeLength_30 : fetch m_ArraysSupport_hugeLength 30 = some (.invokevirtual 94) := by decide +kernel
theorem F_ArraysSupport_hugeLength_33 : fetch m_ArraysSupport_hugeLength 33 = some (.iload_n 1) := by decide +kernel
theorem F_ArraysSupport_hugeLength_34 : fetch m_ArraysSupport_hugeLength 34 = some (.invokevirtual 98) := by decide +kernel
theorem F_ArraysSupport_hugeLength_37 : fetch m_ArraysSupport_hugeLength 37 = some (.ldc 210) := by decide +kernel
theorem F_ArraysSupport_hugeLength_39 : fetch m_ArraysSupport_hugeLength 39 = some (.invokevirtual 94) := by decide +kernel
theorem F_ArraysSupport_hugeLength_42 : fetch m_ArraysSupport_hugeLength 42 = some (.invokevirtual 101) := by decide +kernel
theorem F_ArraysSupport_hugeLength_45 : fetch m_ArraysSupport_hugeLength 45 = some (.invokespecial 212) := by decide +kernel
theorem F_ArraysSupport_hugeLength_48 : fetch m_ArraysSupport_hugeLength 48 = some (.athrow) := by decide +kernel
theorem F_ArraysSupport_hugeLength_49 : fetch m_ArraysSupport_hugeLength 49 = some (.iload_n 2) := by decide +kernel
theorem F_ArraysSupport_hugeLength_50 : fetch m_ArraysSupport_hugeLength 50 = some (.ldc 200) := by decide +kernel
theorem F_ArraysSupport_hugeLength_52 : fetch m_ArraysSupport_hugeLength 52 = some (.if_icmp .gt 6) := by decide +kernel
theorem F_ArraysSupport_hugeLength_55 : fetch m_ArraysSupport_hugeLength 55 = some (.ldc 200) := by decide +kernel
theorem F_ArraysSupport_hugeLength_57 : fetch m_ArraysSupport_hugeLength 57 = some (.ireturn) := by decide +kernel
theorem F_ArraysSupport_hugeLength_58 : fetch m_ArraysSupport_hugeLength 58 = some (.iload_n 2) := by decide +kernel
theorem F_ArraysSupport_hugeLength_59 : fetch m_ArraysSupport_hugeLength 59 = some (.ireturn) := by decide +kernel
theorem F_Arrays_copyOf_0 : fetch m_Arrays_copyOf 0 = some (.aload_n 0) := by decide +kernel
theorem F_Arrays_copyOf_1 : fetch m_Arrays_copyOf 1 = some (.iload_n 1) := by decide +kernel
theorem F_Arrays_copyOf_2 : fetch m_Arrays_copyOf 2 = some (.aload_n 0) := by decide +kernel
theorem F_Arrays_copyOf_3 : fetch m_Arrays_copyOf 3 = some (.invokevirtual 86) := by decide +kernel
theorem F_Arrays_copyOf_6 : fetch m_Arrays_copyOf 6 = some (.invokestatic 300) := by decide +kernel
theorem F_Arrays_copyOf_9 : fetch m_Arrays_copyOf 9 = some (.areturn) := by decide +kernel
theorem F_Arrays_copyOf2_0 : fetch m_Arrays_copyOf2 0 = some (.aload_n 2) := by decide +kernel
theorem F_Arrays_copyOf2_1 : fetch m_Arrays_copyOf2 1 = some (.ldc 110) := by decide +kernel
theorem F_Arrays_copyOf2_3 : fetch m_Arrays_copyOf2 3 = some (.if_acmp .ne 10) := by decide +kernel
theorem F_Arrays_copyOf2_6 : fetch m_Arrays_copyOf2 6 = some (.iload_n 1) := by decide +kernel
theorem F_Arrays_copyOf2_7 : fetch m_Arrays_copyOf2 7 = some (.anewarray 2) := by decide +kernel
theorem F_Arrays_copyOf2_10 : fetch m_Arrays_copyOf2 10 = some (.goto 14) := by decide +kernel
theorem F_Arrays_copyOf2_13 : fetch m_Arrays_copyOf2 13 = some (.aload_n 2) := by decide +kernel
theorem F_Arrays_copyOf2_14 : fetch m_Arrays_copyOf2 14 = some (.invokevirtual 90) := by decide +kernel
theorem F_Arrays_copyOf2_17 : fetch m_Arrays_copyOf2 17 = some (.iload_n 1) := by decide +kernel
theorem F_Arrays_copyOf2_18 : fetch m_Arrays_copyOf2 18 = some (.invokestatic 95) := by decide +kernel
theorem F_Arrays_copyOf2_21 : fetch m_Arrays_copyOf2 21 = some (.checkcast 110) := by decide +kernel
theorem F_Arrays_copyOf2_24 : fetch m_Arrays_copyOf2 24 = some (.astore_n 3) := by decide +kernel
theorem F_Arrays_copyOf2_25 : fetch m_Arrays_copyOf2 25 = some (.aload_n 0) := by decide +kernel
theorem F_Arrays_copyOf2_26 : fetch m_Arrays_copyOf2 26 = some (.iconst 0) := by decide +kernel
theorem F_Arrays_copyOf2_27 : fetch m_Arrays_copyOf2 27 = some (.aload_n 3) := by decide +kernel
theorem F_Arrays_copyOf2_28 : fetch m_Arrays_copyOf2 28 = some (.iconst 0) := by decide +kernel
theorem F_Arrays_copyOf2_29 : fetch m_Arrays_copyOf2 29 = some (.aload_n 0) := by decide +kernel
theorem F_Arrays_copyOf2_30 : fetch m_Arrays_copyOf2 30 = some (.arraylength) := by decide +kernel
theorem F_Arrays_copyOf2_31 : fetch m_Arrays_copyOf2 31 = some (.iload_n 1) := by decide +kernel
theorem F_Arrays_copyOf2_32 : fetch m_Arrays_copyOf2 32 = some (.invokestatic 304) := by decide +kernel
theorem F_Arrays_copyOf2_35 : fetch m_Arrays_copyOf2 35 = some (.invokestatic 150) := by decide +kernel
theorem F_Arrays_copyOf2_38 : fetch m_Arrays_copyOf2 38 = some (.aload_n 3) := by decide +kernel
theorem F_Arrays_copyOf2_39 : fetch m_Arrays_copyOf2 39 = some (.areturn) := by decide +kernel
theorem F_Math_min_0 : fetch m_Math_min 0 = some (.iload_n 0) := by decide +kernel
theorem F_Math_min_1 : fetch m_Math_min 1 = some (.iload_n 1) := by decide +kernel
theorem F_Math_min_2 : fetch m_Math_min 2 = some (.if_icmp .gt 7) := by decide +kernel
theorem F_Math_min_5 : fetch m_Math_min 5 = some (.iload_n 0) := by decide +kernel
theorem F_Math_min_6 : fetch m_Math_min 6 = some (.goto 4) := by decide +kernel
theorem F_Math_min_9 : fetch m_Math_min 9 = some (.iload_n 1) := by decide +kernel
theorem F_Math_min_10 : fetch m_Math_min 10 = some (.ireturn) := by decide +kernel
theorem F_Terms_tell_0 : fetch m_Terms_tell 0 = some (.aload_n 0) := by decide +kernel
theorem F_Terms_tell_1 : fetch m_Terms_tell 1 = some (.getfield 30) := by decide +kernel
theorem F_Terms_tell_4 : fetch m_Terms_tell 4 = some (.aload_n 0) := by decide +kernel
theorem F_Terms_tell_5 : fetch m_Terms_tell 5 = some (.getfield 9) := by decide +kernel
theorem F_Terms_tell_8 : fetch m_Terms_tell 8 = some (.arraylength) := by decide +kernel
theorem F_Terms_tell_9 : fetch m_Terms_tell 9 = some (.if_icmp .ge 57) := by decide +kernel
theorem F_Terms_tell_12 : fetch m_Terms_tell 12 = some (.aload_n 0) := by decide +kernel
theorem F_Terms_tell_13 : fetch m_Terms_tell 13 = some (.getfield 9) := by decide +kernel
theorem F_Terms_tell_16 : fetch m_Terms_tell 16 = some (.aload_n 0) := by decide +kernel
theorem F_Terms_tell_17 : fetch m_Terms_tell 17 = some (.getfield 30) := by decide +kernel
theorem F_Terms_tell_20 : fetch m_Terms_tell 20 = some (.iload_n 1) := by decide +kernel
theorem F_Terms_tell_21 : fetch m_Terms_tell 21 = some (.iastore) := by decide +kernel
theorem F_Terms_tell_22 : fetch m_Terms_tell 22 = some (.aload_n 0) := by decide +kernel
theorem F_Terms_tell_23 : fetch m_Terms_tell 23 = some (.getfield 15) := by decide +kernel
theorem F_Terms_tell_26 : fetch m_Terms_tell 26 = some (.aload_n 0) := by decide +kernel
theorem F_Terms_tell_27 : fetch m_Terms_tell 27 = some (.getfield 30) := by decide +kernel
theorem F_Terms_tell_30 : fetch m_Terms_tell 30 = some (.iload_n 2) := by decide +kernel
theorem F_Terms_tell_31 : fetch m_Terms_tell 31 = some (.iastore) := by decide +kernel
theorem F_Terms_tell_32 : fetch m_Terms_tell 32 = some (.aload_n 0) := by decide +kernel
theorem F_Terms_tell_33 : fetch m_Terms_tell 33 = some (.getfield 18) := by decide +kernel
theorem F_Terms_tell_36 : fetch m_Terms_tell 36 = some (.aload_n 0) := by decide +kernel
theorem F_Terms_tell_37 : fetch m_Terms_tell 37 = some (.getfield 30) := by decide +kernel
theorem F_Terms_tell_40 : fetch m_Terms_tell 40 = some (.iload_n 3) := by decide +kernel
theorem F_Terms_tell_41 : fetch m_Terms_tell 41 = some (.iastore) := by decide +kernel
theorem F_Terms_tell_42 : fetch m_Terms_tell 42 = some (.aload_n 0) := by decide +kernel
theorem F_Terms_tell_43 : fetch m_Terms_tell 43 = some (.getfield 26) := by decide +kernel
theorem F_Terms_tell_46 : fetch m_Terms_tell 46 = some (.aload_n 0) := by decide +kernel
theorem F_Terms_tell_47 : fetch m_Terms_tell 47 = some (.getfield 30) := by decide +kernel
theorem F_Terms_tell_50 : fetch m_Terms_tell 50 = some (.aload 4) := by decide +kernel
theorem F_Terms_tell_52 : fetch m_Terms_tell 52 = some (.iconst 0) := by decide +kernel
theorem F_Terms_tell_53 : fetch m_Terms_tell 53 = some (.invokevirtual 34) := by decide +kernel
theorem F_Terms_tell_56 : fetch m_Terms_tell 56 = some (.aload_n 0) := by decide +kernel
theorem F_Terms_tell_57 : fetch m_Terms_tell 57 = some (.dup) := by decide +kernel
theorem F_Terms_tell_58 : fetch m_Terms_tell 58 = some (.getfield 30) := by decide +kernel
theorem F_Terms_tell_61 : fetch m_Terms_tell 61 = some (.iconst 1) := by decide +kernel
theorem F_Terms_tell_62 : fetch m_Terms_tell 62 = some (.iadd) := by decide +kernel
theorem F_Terms_tell_63 : fetch m_Terms_tell 63 = some (.putfield 30) := by decide +kernel
theorem F_Terms_tell_66 : fetch m_Terms_tell 66 = some (.return_) := by decide +kernel
theorem F_Plan_addStep_0 : fetch m_Plan_addStep 0 = some (.aload_n 0) := by decide +kernel
theorem F_Plan_addStep_1 : fetch m_Plan_addStep 1 = some (.getfield 9) := by decide +kernel
theorem F_Plan_addStep_4 : fetch m_Plan_addStep 4 = some (.aload_n 0) := by decide +kernel
theorem F_Plan_addStep_5 : fetch m_Plan_addStep 5 = some (.getfield 30) := by decide +kernel
theorem F_Plan_addStep_8 : fetch m_Plan_addStep 8 = some (.iload_n 1) := by decide +kernel
theorem F_Plan_addStep_9 : fetch m_Plan_addStep 9 = some (.iastore) := by decide +kernel
theorem F_Plan_addStep_10 : fetch m_Plan_addStep 10 = some (.aload_n 0) := by decide +kernel
theorem F_Plan_addStep_11 : fetch m_Plan_addStep 11 = some (.dup) := by decide +kernel
theorem F_Plan_addStep_12 : fetch m_Plan_addStep 12 = some (.getfield 30) := by decide +kernel
theorem F_Plan_addStep_15 : fetch m_Plan_addStep 15 = some (.iconst 1) := by decide +kernel
theorem F_Plan_addStep_16 : fetch m_Plan_addStep 16 = some (.iadd) := by decide +kernel
theorem F_Plan_addStep_17 : fetch m_Plan_addStep 17 = some (.putfield 30) := by decide +kernel
theorem F_Plan_addStep_20 : fetch m_Plan_addStep 20 = some (.aload_n 0) := by decide +kernel
theorem F_Plan_addStep_21 : fetch m_Plan_addStep 21 = some (.getfield 30) := by decide +kernel
theorem F_Plan_addStep_24 : fetch m_Plan_addStep 24 = some (.iconst 1) := by decide +kernel
theorem F_Plan_addStep_25 : fetch m_Plan_addStep 25 = some (.isub) := by decide +kernel
theorem F_Plan_addStep_26 : fetch m_Plan_addStep 26 = some (.ireturn) := by decide +kernel
theorem F_Plan_isInRow_0 : fetch m_Plan_isInRow 0 = some (.aload_n 0) := by decide +kernel
theorem F_Plan_isInRow_1 : fetch m_Plan_isInRow 1 = some (.getfield 37) := by decide +kernel
theorem F_Plan_isInRow_4 : fetch m_Plan_isInRow 4 = some (.iload_n 1) := by decide +kernel
theorem F_Plan_isInRow_5 : fetch m_Plan_isInRow 5 = some (.ishr) := by decide +kernel
theorem F_Plan_isInRow_6 : fetch m_Plan_isInRow 6 = some (.iconst 1) := by decide +kernel
theorem F_Plan_isInRow_7 : fetch m_Plan_isInRow 7 = some (.iand) := by decide +kernel
theorem F_Plan_isInRow_8 : fetch m_Plan_isInRow 8 = some (.ifCond .eq 7) := by decide +kernel
theorem F_Plan_isInRow_11 : fetch m_Plan_isInRow 11 = some (.iconst 1) := by decide +kernel
theorem F_Plan_isInRow_12 : fetch m_Plan_isInRow 12 = some (.goto 4) := by decide +kernel
theorem F_Plan_isInRow_15 : fetch m_Plan_isInRow 15 = some (.iconst 0) := by decide +kernel
theorem F_Plan_isInRow_16 : fetch m_Plan_isInRow 16 = some (.ireturn) := by decide +kernel
theorem F_Plan_addToRow_0 : fetch m_Plan_addToRow 0 = some (.aload_n 0) := by decide +kernel
theorem F_Plan_addToRow_1 : fetch m_Plan_addToRow 1 = some (.getfield 27) := by decide +kernel
theorem F_Plan_addToRow_4 : fetch m_Plan_addToRow 4 = some (.aload_n 0) := by decide +kernel
theorem F_Plan_addToRow_5 : fetch m_Plan_addToRow 5 = some (.getfield 34) := by decide +kernel
theorem F_Plan_addToRow_8 : fetch m_Plan_addToRow 8 = some (.iload_n 1) := by decide +kernel
theorem F_Plan_addToRow_9 : fetch m_Plan_addToRow 9 = some (.iastore) := by decide +kernel
theorem F_Plan_addToRow_10 : fetch m_Plan_addToRow 10 = some (.aload_n 0) := by decide +kernel
theorem F_Plan_addToRow_11 : fetch m_Plan_addToRow 11 = some (.dup) := by decide +kernel
theorem F_Plan_addToRow_12 : fetch m_Plan_addToRow 12 = some (.getfield 34) := by decide +kernel
theorem F_Plan_addToRow_15 : fetch m_Plan_addToRow 15 = some (.iconst 1) := by decide +kernel
theorem F_Plan_addToRow_16 : fetch m_Plan_addToRow 16 = some (.iadd) := by decide +kernel
theorem F_Plan_addToRow_17 : fetch m_Plan_addToRow 17 = some (.putfield 34) := by decide +kernel
theorem F_Plan_addToRow_20 : fetch m_Plan_addToRow 20 = some (.aload_n 0) := by decide +kernel
theorem F_Plan_addToRow_21 : fetch m_Plan_addToRow 21 = some (.dup) := by decide +kernel
theorem F_Plan_addToRow_22 : fetch m_Plan_addToRow 22 = some (.getfield 37) := by decide +kernel
theorem F_Plan_addToRow_25 : fetch m_Plan_addToRow 25 = some (.iconst 1) := by decide +kernel
theorem F_Plan_addToRow_26 : fetch m_Plan_addToRow 26 = some (.iload_n 1) := by decide +kernel
theorem F_Plan_addToRow_27 : fetch m_Plan_addToRow 27 = some (.ishl) := by decide +kernel
theorem F_Plan_addToRow_28 : fetch m_Plan_addToRow 28 = some (.ior) := by decide +kernel
theorem F_Plan_addToRow_29 : fetch m_Plan_addToRow 29 = some (.putfield 37) := by decide +kernel
theorem F_Plan_addToRow_32 : fetch m_Plan_addToRow 32 = some (.return_) := by decide +kernel
theorem F_Fractions_isAbove_0 : fetch m_Fractions_isAbove 0 = some (.aload_n 0) := by decide +kernel
theorem F_Fractions_isAbove_1 : fetch m_Fractions_isAbove 1 = some (.getfield 9) := by decide +kernel
theorem F_Fractions_isAbove_4 : fetch m_Fractions_isAbove 4 = some (.iload_n 1) := by decide +kernel
theorem F_Fractions_isAbove_5 : fetch m_Fractions_isAbove 5 = some (.laload) := by decide +kernel
theorem F_Fractions_isAbove_6 : fetch m_Fractions_isAbove 6 = some (.lload_n 2) := by decide +kernel
theorem F_Fractions_isAbove_7 : fetch m_Fractions_isAbove 7 = some (.aload_n 0) := by decide +kernel
theorem F_Fractions_isAbove_8 : fetch m_Fractions_isAbove 8 = some (.getfield 15) := by decide +kernel
theorem F_Fractions_isAbove_11 : fetch m_Fractions_isAbove 11 = some (.iload_n 1) := by decide +kernel
theorem F_Fractions_isAbove_12 : fetch m_Fractions_isAbove 12 = some (.laload) := by decide +kernel
theorem F_Fractions_isAbove_13 : fetch m_Fractions_isAbove 13 = some (.lmul) := by decide +kernel
theorem F_Fractions_isAbove_14 : fetch m_Fractions_isAbove 14 = some (.lcmp) := by decide +kernel
theorem F_Fractions_isAbove_15 : fetch m_Fractions_isAbove 15 = some (.ifCond .le 7) := by decide +kernel
theorem F_Fractions_isAbove_18 : fetch m_Fractions_isAbove 18 = some (.iconst 1) := by decide +kernel
theorem F_Fractions_isAbove_19 : fetch m_Fractions_isAbove 19 = some (.goto 4) := by decide +kernel
theorem F_Fractions_isAbove_22 : fetch m_Fractions_isAbove 22 = some (.iconst 0) := by decide +kernel
theorem F_Fractions_isAbove_23 : fetch m_Fractions_isAbove 23 = some (.ireturn) := by decide +kernel
theorem F_Math_max2_0 : fetch m_Math_max2 0 = some (.lload_n 0) := by decide +kernel
theorem F_Math_max2_1 : fetch m_Math_max2 1 = some (.lload_n 2) := by decide +kernel
theorem F_Math_max2_2 : fetch m_Math_max2 2 = some (.lcmp) := by decide +kernel
theorem F_Math_max2_3 : fetch m_Math_max2 3 = some (.ifCond .lt 7) := by decide +kernel
theorem F_Math_max2_6 : fetch m_Math_max2 6 = some (.lload_n 0) := by decide +kernel
theorem F_Math_max2_7 : fetch m_Math_max2 7 = some (.goto 4) := by decide +kernel
theorem F_Math_max2_10 : fetch m_Math_max2 10 = some (.lload_n 2) := by decide +kernel
theorem F_Math_max2_11 : fetch m_Math_max2 11 = some (.lreturn) := by decide +kernel
