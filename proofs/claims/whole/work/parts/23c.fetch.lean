theorem F_Judge_init_0 : fetch m_Judge_init 0 = some (.aload_n 0) := by decide +kernel
theorem F_Judge_init_1 : fetch m_Judge_init 1 = some (.invokespecial 3) := by decide +kernel
theorem F_Judge_init_4 : fetch m_Judge_init 4 = some (.aload_n 0) := by decide +kernel
theorem F_Judge_init_5 : fetch m_Judge_init 5 = some (.new 9) := by decide +kernel
theorem F_Judge_init_8 : fetch m_Judge_init 8 = some (.dup) := by decide +kernel
theorem F_Judge_init_9 : fetch m_Judge_init 9 = some (.bipush 24) := by decide +kernel
theorem F_Judge_init_11 : fetch m_Judge_init 11 = some (.invokespecial 11) := by decide +kernel
theorem F_Judge_init_14 : fetch m_Judge_init 14 = some (.putfield 14) := by decide +kernel
theorem F_Judge_init_17 : fetch m_Judge_init 17 = some (.aload_n 0) := by decide +kernel
theorem F_Judge_init_18 : fetch m_Judge_init 18 = some (.bipush 24) := by decide +kernel
theorem F_Judge_init_20 : fetch m_Judge_init 20 = some (.newarray .int) := by decide +kernel
theorem F_Judge_init_22 : fetch m_Judge_init 22 = some (.putfield 20) := by decide +kernel
theorem F_Judge_init_25 : fetch m_Judge_init 25 = some (.aload_n 0) := by decide +kernel
theorem F_Judge_init_26 : fetch m_Judge_init 26 = some (.new 9) := by decide +kernel
theorem F_Judge_init_29 : fetch m_Judge_init 29 = some (.dup) := by decide +kernel
theorem F_Judge_init_30 : fetch m_Judge_init 30 = some (.iconst 1) := by decide +kernel
theorem F_Judge_init_31 : fetch m_Judge_init 31 = some (.invokespecial 11) := by decide +kernel
theorem F_Judge_init_34 : fetch m_Judge_init 34 = some (.putfield 24) := by decide +kernel
theorem F_Judge_init_37 : fetch m_Judge_init 37 = some (.aload_n 0) := by decide +kernel
theorem F_Judge_init_38 : fetch m_Judge_init 38 = some (.new 27) := by decide +kernel
theorem F_Judge_init_41 : fetch m_Judge_init 41 = some (.dup) := by decide +kernel
theorem F_Judge_init_42 : fetch m_Judge_init 42 = some (.invokespecial 29) := by decide +kernel
theorem F_Judge_init_45 : fetch m_Judge_init 45 = some (.putfield 30) := by decide +kernel
theorem F_Judge_init_48 : fetch m_Judge_init 48 = some (.aload_n 0) := by decide +kernel
theorem F_Judge_init_49 : fetch m_Judge_init 49 = some (.new 27) := by decide +kernel
theorem F_Judge_init_52 : fetch m_Judge_init 52 = some (.dup) := by decide +kernel
theorem F_Judge_init_53 : fetch m_Judge_init 53 = some (.invokespecial 29) := by decide +kernel
theorem F_Judge_init_56 : fetch m_Judge_init 56 = some (.putfield 34) := by decide +kernel
theorem F_Judge_init_59 : fetch m_Judge_init 59 = some (.return_) := by decide +kernel
theorem F_Arranger_init_0 : fetch m_Arranger_init 0 = some (.aload_n 0) := by decide +kernel
theorem F_Arranger_init_1 : fetch m_Arranger_init 1 = some (.invokespecial 3) := by decide +kernel
theorem F_Arranger_init_4 : fetch m_Arranger_init 4 = some (.aload_n 0) := by decide +kernel
theorem F_Arranger_init_5 : fetch m_Arranger_init 5 = some (.bipush 25) := by decide +kernel
theorem F_Arranger_init_7 : fetch m_Arranger_init 7 = some (.anewarray 9) := by decide +kernel
theorem F_Arranger_init_10 : fetch m_Arranger_init 10 = some (.putfield 11) := by decide +kernel
theorem F_Arranger_init_13 : fetch m_Arranger_init 13 = some (.aload_n 0) := by decide +kernel
theorem F_Arranger_init_14 : fetch m_Arranger_init 14 = some (.bipush 24) := by decide +kernel
theorem F_Arranger_init_16 : fetch m_Arranger_init 16 = some (.newarray .int) := by decide +kernel
theorem F_Arranger_init_18 : fetch m_Arranger_init 18 = some (.putfield 17) := by decide +kernel
theorem F_Arranger_init_21 : fetch m_Arranger_init 21 = some (.aload_n 0) := by decide +kernel
theorem F_Arranger_init_22 : fetch m_Arranger_init 22 = some (.bipush 24) := by decide +kernel
theorem F_Arranger_init_24 : fetch m_Arranger_init 24 = some (.newarray .int) := by decide +kernel
theorem F_Arranger_init_26 : fetch m_Arranger_init 26 = some (.putfield 21) := by decide +kernel
theorem F_Arranger_init_29 : fetch m_Arranger_init 29 = some (.aload_n 0) := by decide +kernel
theorem F_Arranger_init_30 : fetch m_Arranger_init 30 = some (.bipush 24) := by decide +kernel
theorem F_Arranger_init_32 : fetch m_Arranger_init 32 = some (.newarray .long) := by decide +kernel
theorem F_Arranger_init_34 : fetch m_Arranger_init 34 = some (.putfield 24) := by decide +kernel
theorem F_Arranger_init_37 : fetch m_Arranger_init 37 = some (.aload_n 0) := by decide +kernel
theorem F_Arranger_init_38 : fetch m_Arranger_init 38 = some (.bipush 12) := by decide +kernel
theorem F_Arranger_init_40 : fetch m_Arranger_init 40 = some (.newarray .int) := by decide +kernel
theorem F_Arranger_init_42 : fetch m_Arranger_init 42 = some (.putfield 28) := by decide +kernel
theorem F_Arranger_init_45 : fetch m_Arranger_init 45 = some (.aload_n 0) := by decide +kernel
theorem F_Arranger_init_46 : fetch m_Arranger_init 46 = some (.bipush 12) := by decide +kernel
theorem F_Arranger_init_48 : fetch m_Arranger_init 48 = some (.newarray .int) := by decide +kernel
theorem F_Arranger_init_50 : fetch m_Arranger_init 50 = some (.putfield 31) := by decide +kernel
theorem F_Arranger_init_53 : fetch m_Arranger_init 53 = some (.aload_n 0) := by decide +kernel
theorem F_Arranger_init_54 : fetch m_Arranger_init 54 = some (.new 34) := by decide +kernel
theorem F_Arranger_init_57 : fetch m_Arranger_init 57 = some (.dup) := by decide +kernel
theorem F_Arranger_init_58 : fetch m_Arranger_init 58 = some (.bipush 12) := by decide +kernel
theorem F_Arranger_init_60 : fetch m_Arranger_init 60 = some (.invokespecial 36) := by decide +kernel
theorem F_Arranger_init_63 : fetch m_Arranger_init 63 = some (.putfield 39) := by decide +kernel
theorem F_Arranger_init_66 : fetch m_Arranger_init 66 = some (.aload_n 0) := by decide +kernel
theorem F_Arranger_init_67 : fetch m_Arranger_init 67 = some (.new 34) := by decide +kernel
theorem F_Arranger_init_70 : fetch m_Arranger_init 70 = some (.dup) := by decide +kernel
theorem F_Arranger_init_71 : fetch m_Arranger_init 71 = some (.bipush 12) := by decide +kernel
theorem F_Arranger_init_73 : fetch m_Arranger_init 73 = some (.invokespecial 36) := by decide +kernel
theorem F_Arranger_init_76 : fetch m_Arranger_init 76 = some (.putfield 43) := by decide +kernel
theorem F_Arranger_init_79 : fetch m_Arranger_init 79 = some (.aload_n 0) := by decide +kernel
theorem F_Arranger_init_80 : fetch m_Arranger_init 80 = some (.bipush 12) := by decide +kernel
theorem F_Arranger_init_82 : fetch m_Arranger_init 82 = some (.newarray .boolean) := by decide +kernel
theorem F_Arranger_init_84 : fetch m_Arranger_init 84 = some (.putfield 46) := by decide +kernel
theorem F_Arranger_init_87 : fetch m_Arranger_init 87 = some (.aload_n 0) := by decide +kernel
theorem F_Arranger_init_88 : fetch m_Arranger_init 88 = some (.bipush 12) := by decide +kernel
theorem F_Arranger_init_90 : fetch m_Arranger_init 90 = some (.newarray .long) := by decide +kernel
theorem F_Arranger_init_92 : fetch m_Arranger_init 92 = some (.putfield 50) := by decide +kernel
theorem F_Arranger_init_95 : fetch m_Arranger_init 95 = some (.aload_n 0) := by decide +kernel
theorem F_Arranger_init_96 : fetch m_Arranger_init 96 = some (.bipush 12) := by decide +kernel
theorem F_Arranger_init_98 : fetch m_Arranger_init 98 = some (.newarray .long) := by decide +kernel
theorem F_Arranger_init_100 : fetch m_Arranger_init 100 = some (.putfield 53) := by decide +kernel
theorem F_Arranger_init_103 : fetch m_Arranger_init 103 = some (.aload_n 0) := by decide +kernel
theorem F_Arranger_init_104 : fetch m_Arranger_init 104 = some (.new 34) := by decide +kernel
theorem F_Arranger_init_107 : fetch m_Arranger_init 107 = some (.dup) := by decide +kernel
theorem F_Arranger_init_108 : fetch m_Arranger_init 108 = some (.iconst 1) := by decide +kernel
theorem F_Arranger_init_109 : fetch m_Arranger_init 109 = some (.invokespecial 36) := by decide +kernel
theorem F_Arranger_init_112 : fetch m_Arranger_init 112 = some (.putfield 56) := by decide +kernel
theorem F_Arranger_init_115 : fetch m_Arranger_init 115 = some (.iconst 0) := by decide +kernel
theorem F_Arranger_init_116 : fetch m_Arranger_init 116 = some (.istore_n 1) := by decide +kernel
theorem F_Arranger_init_117 : fetch m_Arranger_init 117 = some (.iload_n 1) := by decide +kernel
theorem F_Arranger_init_118 : fetch m_Arranger_init 118 = some (.aload_n 0) := by decide +kernel
theorem F_Arranger_init_119 : fetch m_Arranger_init 119 = some (.getfield 11) := by decide +kernel
theorem F_Arranger_init_122 : fetch m_Arranger_init 122 = some (.arraylength) := by decide +kernel
theorem F_Arranger_init_123 : fetch m_Arranger_init 123 = some (.if_icmp .ge 22) := by decide +kernel
theorem F_Arranger_init_126 : fetch m_Arranger_init 126 = some (.aload_n 0) := by decide +kernel
theorem F_Arranger_init_127 : fetch m_Arranger_init 127 = some (.getfield 11) := by decide +kernel
theorem F_Arranger_init_130 : fetch m_Arranger_init 130 = some (.iload_n 1) := by decide +kernel
theorem F_Arranger_init_131 : fetch m_Arranger_init 131 = some (.new 9) := by decide +kernel
theorem F_Arranger_init_134 : fetch m_Arranger_init 134 = some (.dup) := by decide +kernel
theorem F_Arranger_init_135 : fetch m_Arranger_init 135 = some (.invokespecial 59) := by decide +kernel
theorem F_Arranger_init_138 : fetch m_Arranger_init 138 = some (.aastore) := by decide +kernel
theorem F_Arranger_init_139 : fetch m_Arranger_init 139 = some (.iinc 1 1) := by decide +kernel
theorem F_Arranger_init_142 : fetch m_Arranger_init 142 = some (.goto (-25)) := by decide +kernel
theorem F_Arranger_init_145 : fetch m_Arranger_init 145 = some (.return_) := by decide +kernel
theorem F_Judge_findFault_0 : fetch m_Judge_findFault 0 = some (.aload_n 0) := by decide +kernel
theorem F_Judge_findFault_1 : fetch m_Judge_findFault 1 = some (.aload_n 2) := by decide +kernel
theorem F_Judge_findFault_2 : fetch m_Judge_findFault 2 = some (.invokevirtual 37) := by decide +kernel
theorem F_Judge_findFault_5 : fetch m_Judge_findFault 5 = some (.aload_n 0) := by decide +kernel
theorem F_Judge_findFault_6 : fetch m_Judge_findFault 6 = some (.getfield 30) := by decide +kernel
theorem F_Judge_findFault_9 : fetch m_Judge_findFault 9 = some (.aload_n 1) := by decide +kernel
theorem F_Judge_findFault_10 : fetch m_Judge_findFault 10 = some (.getfield 41) := by decide +kernel
theorem F_Judge_findFault_13 : fetch m_Judge_findFault 13 = some (.invokevirtual 46) := by decide +kernel
theorem F_Judge_findFault_16 : fetch m_Judge_findFault 16 = some (.aload_n 0) := by decide +kernel
theorem F_Judge_findFault_17 : fetch m_Judge_findFault 17 = some (.iconst 0) := by decide +kernel
theorem F_Judge_findFault_18 : fetch m_Judge_findFault 18 = some (.putfield 50) := by decide +kernel
theorem F_Judge_findFault_21 : fetch m_Judge_findFault 21 = some (.iconst 2) := by decide +kernel
theorem F_Judge_findFault_22 : fetch m_Judge_findFault 22 = some (.aload_n 2) := by decide +kernel
theorem F_Judge_findFault_23 : fetch m_Judge_findFault 23 = some (.getfield 54) := by decide +kernel
theorem F_Judge_findFault_26 : fetch m_Judge_findFault 26 = some (.imul) := by decide +kernel
theorem F_Judge_findFault_27 : fetch m_Judge_findFault 27 = some (.istore_n 3) := by decide +kernel
theorem F_Judge_findFault_28 : fetch m_Judge_findFault 28 = some (.iconst 0) := by decide +kernel
theorem F_Judge_findFault_29 : fetch m_Judge_findFault 29 = some (.istore 4) := by decide +kernel
theorem F_Judge_findFault_31 : fetch m_Judge_findFault 31 = some (.iload 4) := by decide +kernel
theorem F_Judge_findFault_33 : fetch m_Judge_findFault 33 = some (.iload_n 3) := by decide +kernel
theorem F_Judge_findFault_34 : fetch m_Judge_findFault 34 = some (.if_icmp .ge 76) := by decide +kernel
theorem F_Judge_findFault_37 : fetch m_Judge_findFault 37 = some (.iload 4) := by decide +kernel
theorem F_Judge_findFault_39 : fetch m_Judge_findFault 39 = some (.iconst 1) := by decide +kernel
theorem F_Judge_findFault_40 : fetch m_Judge_findFault 40 = some (.iadd) := by decide +kernel
theorem F_Judge_findFault_41 : fetch m_Judge_findFault 41 = some (.istore 5) := by decide +kernel
theorem F_Judge_findFault_43 : fetch m_Judge_findFault 43 = some (.iload 5) := by decide +kernel
theorem F_Judge_findFault_45 : fetch m_Judge_findFault 45 = some (.iload_n 3) := by decide +kernel
theorem F_Judge_findFault_46 : fetch m_Judge_findFault 46 = some (.if_icmp .ge 37) := by decide +kernel
theorem F_Judge_findFault_49 : fetch m_Judge_findFault 49 = some (.aload_n 0) := by decide +kernel
theorem F_Judge_findFault_50 : fetch m_Judge_findFault 50 = some (.getfield 14) := by decide +kernel
theorem F_Judge_findFault_53 : fetch m_Judge_findFault 53 = some (.aload_n 0) := by decide +kernel
theorem F_Judge_findFault_54 : fetch m_Judge_findFault 54 = some (.getfield 20) := by decide +kernel
theorem F_Judge_findFault_57 : fetch m_Judge_findFault 57 = some (.iload 5) := by decide +kernel
theorem F_Judge_findFault_59 : fetch m_Judge_findFault 59 = some (.iaload) := by decide +kernel
theorem F_Judge_findFault_60 : fetch m_Judge_findFault 60 = some (.aload_n 0) := by decide +kernel
theorem F_Judge_findFault_61 : fetch m_Judge_findFault 61 = some (.getfield 14) := by decide +kernel
theorem F_Judge_findFault_64 : fetch m_Judge_findFault 64 = some (.aload_n 0) := by decide +kernel
theorem F_Judge_findFault_65 : fetch m_Judge_findFault 65 = some (.getfield 20) := by decide +kernel
theorem F_Judge_findFault_68 : fetch m_Judge_findFault 68 = some (.iload 4) := by decide +kernel
theorem F_Judge_findFault_70 : fetch m_Judge_findFault 70 = some (.iaload) := by decide +kernel
theorem F_Judge_findFault_71 : fetch m_Judge_findFault 71 = some (.invokevirtual 59) := by decide +kernel
theorem F_Judge_findFault_74 : fetch m_Judge_findFault 74 = some (.ifCond .ne 9) := by decide +kernel
theorem F_Judge_findFault_77 : fetch m_Judge_findFault 77 = some (.iinc 5 1) := by decide +kernel
theorem F_Judge_findFault_80 : fetch m_Judge_findFault 80 = some (.goto (-37)) := by decide +kernel
theorem F_Judge_findFault_83 : fetch m_Judge_findFault 83 = some (.aload_n 0) := by decide +kernel
theorem F_Judge_findFault_84 : fetch m_Judge_findFault 84 = some (.aload_n 1) := by decide +kernel
theorem F_Judge_findFault_85 : fetch m_Judge_findFault 85 = some (.aload_n 2) := by decide +kernel
theorem F_Judge_findFault_86 : fetch m_Judge_findFault 86 = some (.iload 4) := by decide +kernel
theorem F_Judge_findFault_88 : fetch m_Judge_findFault 88 = some (.iload 5) := by decide +kernel
theorem F_Judge_findFault_90 : fetch m_Judge_findFault 90 = some (.invokevirtual 63) := by decide +kernel
theorem F_Judge_findFault_93 : fetch m_Judge_findFault 93 = some (.istore 6) := by decide +kernel
theorem F_Judge_findFault_95 : fetch m_Judge_findFault 95 = some (.iload 6) := by decide +kernel
theorem F_Judge_findFault_97 : fetch m_Judge_findFault 97 = some (.ifCond .eq 6) := by decide +kernel
theorem F_Judge_findFault_100 : fetch m_Judge_findFault 100 = some (.iload 6) := by decide +kernel
theorem F_Judge_findFault_102 : fetch m_Judge_findFault 102 = some (.ireturn) := by decide +kernel
theorem F_Judge_findFault_103 : fetch m_Judge_findFault 103 = some (.iload 5) := by decide +kernel
theorem F_Judge_findFault_105 : fetch m_Judge_findFault 105 = some (.istore 4) := by decide +kernel
theorem F_Judge_findFault_107 : fetch m_Judge_findFault 107 = some (.goto (-76)) := by decide +kernel
theorem F_Judge_findFault_110 : fetch m_Judge_findFault 110 = some (.aload_n 0) := by decide +kernel
theorem F_Judge_findFault_111 : fetch m_Judge_findFault 111 = some (.iconst (-1)) := by decide +kernel
theorem F_Judge_findFault_112 : fetch m_Judge_findFault 112 = some (.putfield 67) := by decide +kernel
theorem F_Judge_findFault_115 : fetch m_Judge_findFault 115 = some (.aload_n 1) := by decide +kernel
theorem F_Judge_findFault_116 : fetch m_Judge_findFault 116 = some (.aload_n 0) := by decide +kernel
theorem F_Judge_findFault_117 : fetch m_Judge_findFault 117 = some (.getfield 30) := by decide +kernel
theorem F_Judge_findFault_120 : fetch m_Judge_findFault 120 = some (.invokevirtual 70) := by decide +kernel
theorem F_Judge_findFault_123 : fetch m_Judge_findFault 123 = some (.ifCond .eq 7) := by decide +kernel
theorem F_Judge_findFault_126 : fetch m_Judge_findFault 126 = some (.iconst 0) := by decide +kernel
theorem F_Judge_findFault_127 : fetch m_Judge_findFault 127 = some (.goto 5) := by decide +kernel
theorem F_Judge_findFault_130 : fetch m_Judge_findFault 130 = some (.bipush 6) := by decide +kernel
theorem F_Judge_findFault_132 : fetch m_Judge_findFault 132 = some (.ireturn) := by decide +kernel
theorem F_Judge_sortPoints_0 : fetch m_Judge_sortPoints 0 = some (.iconst 0) := by decide +kernel
theorem F_Judge_sortPoints_1 : fetch m_Judge_sortPoints 1 = some (.istore_n 2) := by decide +kernel
theorem F_Judge_sortPoints_2 : fetch m_Judge_sortPoints 2 = some (.iload_n 2) := by decide +kernel
theorem F_Judge_sortPoints_3 : fetch m_Judge_sortPoints 3 = some (.iconst 2) := by decide +kernel
theorem F_Judge_sortPoints_4 : fetch m_Judge_sortPoints 4 = some (.aload_n 1) := by decide +kernel
theorem F_Judge_sortPoints_5 : fetch m_Judge_sortPoints 5 = some (.getfield 54) := by decide +kernel
theorem F_Judge_sortPoints_8 : fetch m_Judge_sortPoints 8 = some (.imul) := by decide +kernel
theorem F_Judge_sortPoints_9 : fetch m_Judge_sortPoints 9 = some (.if_icmp .ge 103) := by decide +kernel
theorem F_Judge_sortPoints_12 : fetch m_Judge_sortPoints 12 = some (.aload_n 0) := by decide +kernel
theorem F_Judge_sortPoints_13 : fetch m_Judge_sortPoints 13 = some (.getfield 14) := by decide +kernel
theorem F_Judge_sortPoints_16 : fetch m_Judge_sortPoints 16 = some (.iload_n 2) := by decide +kernel
theorem F_Judge_sortPoints_17 : fetch m_Judge_sortPoints 17 = some (.aload_n 1) := by decide +kernel
theorem F_Judge_sortPoints_18 : fetch m_Judge_sortPoints 18 = some (.getfield 74) := by decide +kernel
theorem F_Judge_sortPoints_21 : fetch m_Judge_sortPoints 21 = some (.iload_n 2) := by decide +kernel
theorem F_Judge_sortPoints_22 : fetch m_Judge_sortPoints 22 = some (.iconst 2) := by decide +kernel
theorem F_Judge_sortPoints_23 : fetch m_Judge_sortPoints 23 = some (.idiv) := by decide +kernel
theorem F_Judge_sortPoints_24 : fetch m_Judge_sortPoints 24 = some (.invokevirtual 77) := by decide +kernel
theorem F_Judge_sortPoints_27 : fetch m_Judge_sortPoints 27 = some (.iload_n 2) := by decide +kernel
theorem F_Judge_sortPoints_28 : fetch m_Judge_sortPoints 28 = some (.invokestatic 81) := by decide +kernel
theorem F_Judge_sortPoints_31 : fetch m_Judge_sortPoints 31 = some (.ifCond .eq 19) := by decide +kernel
theorem F_Judge_sortPoints_34 : fetch m_Judge_sortPoints 34 = some (.aload_n 0) := by decide +kernel
theorem F_Judge_sortPoints_35 : fetch m_Judge_sortPoints 35 = some (.getfield 14) := by decide +kernel
theorem F_Judge_sortPoints_38 : fetch m_Judge_sortPoints 38 = some (.iload_n 2) := by decide +kernel
theorem F_Judge_sortPoints_39 : fetch m_Judge_sortPoints 39 = some (.iconst 1) := by decide +kernel
theorem F_Judge_sortPoints_40 : fetch m_Judge_sortPoints 40 = some (.aload_n 1) := by decide +kernel
theorem F_Judge_sortPoints_41 : fetch m_Judge_sortPoints 41 = some (.getfield 85) := by decide +kernel
theorem F_Judge_sortPoints_44 : fetch m_Judge_sortPoints 44 = some (.iload_n 2) := by decide +kernel
theorem F_Judge_sortPoints_45 : fetch m_Judge_sortPoints 45 = some (.iconst 2) := by decide +kernel
theorem F_Judge_sortPoints_46 : fetch m_Judge_sortPoints 46 = some (.idiv) := by decide +kernel
theorem F_Judge_sortPoints_47 : fetch m_Judge_sortPoints 47 = some (.invokevirtual 88) := by decide +kernel
theorem F_Judge_sortPoints_50 : fetch m_Judge_sortPoints 50 = some (.iload_n 2) := by decide +kernel
theorem F_Judge_sortPoints_51 : fetch m_Judge_sortPoints 51 = some (.istore_n 3) := by decide +kernel
theorem F_Judge_sortPoints_52 : fetch m_Judge_sortPoints 52 = some (.iload_n 3) := by decide +kernel
theorem F_Judge_sortPoints_53 : fetch m_Judge_sortPoints 53 = some (.ifCond .le 46) := by decide +kernel
theorem F_Judge_sortPoints_56 : fetch m_Judge_sortPoints 56 = some (.aload_n 0) := by decide +kernel
theorem F_Judge_sortPoints_57 : fetch m_Judge_sortPoints 57 = some (.getfield 14) := by decide +kernel
theorem F_Judge_sortPoints_60 : fetch m_Judge_sortPoints 60 = some (.iload_n 2) := by decide +kernel
theorem F_Judge_sortPoints_61 : fetch m_Judge_sortPoints 61 = some (.aload_n 0) := by decide +kernel
theorem F_Judge_sortPoints_62 : fetch m_Judge_sortPoints 62 = some (.getfield 14) := by decide +kernel
theorem F_Judge_sortPoints_65 : fetch m_Judge_sortPoints 65 = some (.aload_n 0) := by decide +kernel
theorem F_Judge_sortPoints_66 : fetch m_Judge_sortPoints 66 = some (.getfield 20) := by decide +kernel
theorem F_Judge_sortPoints_69 : fetch m_Judge_sortPoints 69 = some (.iload_n 3) := by decide +kernel
theorem F_Judge_sortPoints_70 : fetch m_Judge_sortPoints 70 = some (.iconst 1) := by decide +kernel
theorem F_Judge_sortPoints_71 : fetch m_Judge_sortPoints 71 = some (.isub) := by decide +kernel
theorem F_Judge_sortPoints_72 : fetch m_Judge_sortPoints 72 = some (.iaload) := by decide +kernel
theorem F_Judge_sortPoints_73 : fetch m_Judge_sortPoints 73 = some (.invokevirtual 59) := by decide +kernel
theorem F_Judge_sortPoints_76 : fetch m_Judge_sortPoints 76 = some (.ifCond .ge 23) := by decide +kernel
theorem F_Judge_sortPoints_79 : fetch m_Judge_sortPoints 79 = some (.aload_n 0) := by decide +kernel
theorem F_Judge_sortPoints_80 : fetch m_Judge_sortPoints 80 = some (.getfield 20) := by decide +kernel
theorem F_Judge_sortPoints_83 : fetch m_Judge_sortPoints 83 = some (.iload_n 3) := by decide +kernel
theorem F_Judge_sortPoints_84 : fetch m_Judge_sortPoints 84 = some (.aload_n 0) := by decide +kernel
theorem F_Judge_sortPoints_85 : fetch m_Judge_sortPoints 85 = some (.getfield 20) := by decide +kernel
theorem F_Judge_sortPoints_88 : fetch m_Judge_sortPoints 88 = some (.iload_n 3) := by decide +kernel
theorem F_Judge_sortPoints_89 : fetch m_Judge_sortPoints 89 = some (.iconst 1) := by decide +kernel
theorem F_Judge_sortPoints_90 : fetch m_Judge_sortPoints 90 = some (.isub) := by decide +kernel
theorem F_Judge_sortPoints_91 : fetch m_Judge_sortPoints 91 = some (.iaload) := by decide +kernel
theorem F_Judge_sortPoints_92 : fetch m_Judge_sortPoints 92 = some (.iastore) := by decide +kernel
theorem F_Judge_sortPoints_93 : fetch m_Judge_sortPoints 93 = some (.iinc 3 (-1)) := by decide +kernel
theorem F_Judge_sortPoints_96 : fetch m_Judge_sortPoints 96 = some (.goto (-44)) := by decide +kernel
theorem F_Judge_sortPoints_99 : fetch m_Judge_sortPoints 99 = some (.aload_n 0) := by decide +kernel
theorem F_Judge_sortPoints_100 : fetch m_Judge_sortPoints 100 = some (.getfield 20) := by decide +kernel
theorem F_Judge_sortPoints_103 : fetch m_Judge_sortPoints 103 = some (.iload_n 3) := by decide +kernel
theorem F_Judge_sortPoints_104 : fetch m_Judge_sortPoints 104 = some (.iload_n 2) := by decide +kernel
theorem F_Judge_sortPoints_105 : fetch m_Judge_sortPoints 105 = some (.iastore) := by decide +kernel
theorem F_Judge_sortPoints_106 : fetch m_Judge_sortPoints 106 = some (.iinc 2 1) := by decide +kernel
theorem F_Judge_sortPoints_109 : fetch m_Judge_sortPoints 109 = some (.goto (-107)) := by decide +kernel
theorem F_Judge_sortPoints_112 : fetch m_Judge_sortPoints 112 = some (.return_) := by decide +kernel
theorem F_Judge_faultAmong_0 : fetch m_Judge_faultAmong 0 = some (.aload_n 0) := by decide +kernel
theorem F_Judge_faultAmong_1 : fetch m_Judge_faultAmong 1 = some (.aload_n 0) := by decide +kernel
theorem F_Judge_faultAmong_2 : fetch m_Judge_faultAmong 2 = some (.aload_n 1) := by decide +kernel
theorem F_Judge_faultAmong_3 : fetch m_Judge_faultAmong 3 = some (.aload_n 2) := by decide +kernel
theorem F_Judge_faultAmong_4 : fetch m_Judge_faultAmong 4 = some (.iload_n 3) := by decide +kernel
theorem F_Judge_faultAmong_5 : fetch m_Judge_faultAmong 5 = some (.iload 4) := by decide +kernel
theorem F_Judge_faultAmong_7 : fetch m_Judge_faultAmong 7 = some (.invokevirtual 92) := by decide +kernel
theorem F_Judge_faultAmong_10 : fetch m_Judge_faultAmong 10 = some (.putfield 67) := by decide +kernel
theorem F_Judge_faultAmong_13 : fetch m_Judge_faultAmong 13 = some (.aload_n 0) := by decide +kernel
theorem F_Judge_faultAmong_14 : fetch m_Judge_faultAmong 14 = some (.getfield 67) := by decide +kernel
theorem F_Judge_faultAmong_17 : fetch m_Judge_faultAmong 17 = some (.iconst (-1)) := by decide +kernel
theorem F_Judge_faultAmong_18 : fetch m_Judge_faultAmong 18 = some (.if_icmp .eq 5) := by decide +kernel
theorem F_Judge_faultAmong_21 : fetch m_Judge_faultAmong 21 = some (.iconst 1) := by decide +kernel
theorem F_Judge_faultAmong_22 : fetch m_Judge_faultAmong 22 = some (.ireturn) := by decide +kernel
theorem F_Judge_faultAmong_23 : fetch m_Judge_faultAmong 23 = some (.aload_n 0) := by decide +kernel
theorem F_Judge_faultAmong_24 : fetch m_Judge_faultAmong 24 = some (.aload_n 0) := by decide +kernel
theorem F_Judge_faultAmong_25 : fetch m_Judge_faultAmong 25 = some (.aload_n 1) := by decide +kernel
theorem F_Judge_faultAmong_26 : fetch m_Judge_faultAmong 26 = some (.aload_n 2) := by decide +kernel
theorem F_Judge_faultAmong_27 : fetch m_Judge_faultAmong 27 = some (.iload_n 3) := by decide +kernel
theorem F_Judge_faultAmong_28 : fetch m_Judge_faultAmong 28 = some (.iload 4) := by decide +kernel
theorem F_Judge_faultAmong_30 : fetch m_Judge_faultAmong 30 = some (.invokevirtual 95) := by decide +kernel
theorem F_Judge_faultAmong_33 : fetch m_Judge_faultAmong 33 = some (.putfield 67) := by decide +kernel
theorem F_Judge_faultAmong_36 : fetch m_Judge_faultAmong 36 = some (.aload_n 0) := by decide +kernel
theorem F_Judge_faultAmong_37 : fetch m_Judge_faultAmong 37 = some (.getfield 67) := by decide +kernel
theorem F_Judge_faultAmong_40 : fetch m_Judge_faultAmong 40 = some (.iconst (-1)) := by decide +kernel
theorem F_Judge_faultAmong_41 : fetch m_Judge_faultAmong 41 = some (.if_icmp .eq 5) := by decide +kernel
theorem F_Judge_faultAmong_44 : fetch m_Judge_faultAmong 44 = some (.iconst 2) := by decide +kernel
theorem F_Judge_faultAmong_45 : fetch m_Judge_faultAmong 45 = some (.ireturn) := by decide +kernel
theorem F_Judge_faultAmong_46 : fetch m_Judge_faultAmong 46 = some (.aload_n 0) := by decide +kernel
theorem F_Judge_faultAmong_47 : fetch m_Judge_faultAmong 47 = some (.aload_n 0) := by decide +kernel
theorem F_Judge_faultAmong_48 : fetch m_Judge_faultAmong 48 = some (.aload_n 1) := by decide +kernel
theorem F_Judge_faultAmong_49 : fetch m_Judge_faultAmong 49 = some (.aload_n 2) := by decide +kernel
theorem F_Judge_faultAmong_50 : fetch m_Judge_faultAmong 50 = some (.iload_n 3) := by decide +kernel
theorem F_Judge_faultAmong_51 : fetch m_Judge_faultAmong 51 = some (.iload 4) := by decide +kernel
theorem F_Judge_faultAmong_53 : fetch m_Judge_faultAmong 53 = some (.invokevirtual 98) := by decide +kernel
theorem F_Judge_faultAmong_56 : fetch m_Judge_faultAmong 56 = some (.putfield 67) := by decide +kernel
theorem F_Judge_faultAmong_59 : fetch m_Judge_faultAmong 59 = some (.aload_n 0) := by decide +kernel
theorem F_Judge_faultAmong_60 : fetch m_Judge_faultAmong 60 = some (.getfield 67) := by decide +kernel
theorem F_Judge_faultAmong_63 : fetch m_Judge_faultAmong 63 = some (.iconst (-1)) := by decide +kernel
theorem F_Judge_faultAmong_64 : fetch m_Judge_faultAmong 64 = some (.if_icmp .eq 5) := by decide +kernel
theorem F_Judge_faultAmong_67 : fetch m_Judge_faultAmong 67 = some (.iconst 3) := by decide +kernel
theorem F_Judge_faultAmong_68 : fetch m_Judge_faultAmong 68 = some (.ireturn) := by decide +kernel
theorem F_Judge_faultAmong_69 : fetch m_Judge_faultAmong 69 = some (.aload_n 0) := by decide +kernel
theorem F_Judge_faultAmong_70 : fetch m_Judge_faultAmong 70 = some (.aload_n 0) := by decide +kernel
theorem F_Judge_faultAmong_71 : fetch m_Judge_faultAmong 71 = some (.aload_n 1) := by decide +kernel
theorem F_Judge_faultAmong_72 : fetch m_Judge_faultAmong 72 = some (.aload_n 2) := by decide +kernel
theorem F_Judge_faultAmong_73 : fetch m_Judge_faultAmong 73 = some (.iload_n 3) := by decide +kernel
theorem F_Judge_faultAmong_74 : fetch m_Judge_faultAmong 74 = some (.iload 4) := by decide +kernel
theorem F_Judge_faultAmong_76 : fetch m_Judge_faultAmong 76 = some (.invokevirtual 101) := by decide +kernel
theorem F_Judge_faultAmong_79 : fetch m_Judge_faultAmong 79 = some (.putfield 67) := by decide +kernel
theorem F_Judge_faultAmong_82 : fetch m_Judge_faultAmong 82 = some (.aload_n 0) := by decide +kernel
theorem F_Judge_faultAmong_83 : fetch m_Judge_faultAmong 83 = some (.getfield 67) := by decide +kernel
theorem F_Judge_faultAmong_86 : fetch m_Judge_faultAmong 86 = some (.iconst (-1)) := by decide +kernel
theorem F_Judge_faultAmong_87 : fetch m_Judge_faultAmong 87 = some (.if_icmp .eq 5) := by decide +kernel
theorem F_Judge_faultAmong_90 : fetch m_Judge_faultAmong 90 = some (.iconst 4) := by decide +kernel
theorem F_Judge_faultAmong_91 : fetch m_Judge_faultAmong 91 = some (.ireturn) := by decide +kernel
theorem F_Judge_faultAmong_92 : fetch m_Judge_faultAmong 92 = some (.aload_n 0) := by decide +kernel
theorem F_Judge_faultAmong_93 : fetch m_Judge_faultAmong 93 = some (.getfield 30) := by decide +kernel
theorem F_Judge_faultAmong_96 : fetch m_Judge_faultAmong 96 = some (.aload_n 0) := by decide +kernel
theorem F_Judge_faultAmong_97 : fetch m_Judge_faultAmong 97 = some (.getfield 34) := by decide +kernel
theorem F_Judge_faultAmong_100 : fetch m_Judge_faultAmong 100 = some (.invokevirtual 46) := by decide +kernel
theorem F_Judge_faultAmong_103 : fetch m_Judge_faultAmong 103 = some (.aload_n 0) := by decide +kernel
theorem F_Judge_faultAmong_104 : fetch m_Judge_faultAmong 104 = some (.aload_n 0) := by decide +kernel
theorem F_Judge_faultAmong_105 : fetch m_Judge_faultAmong 105 = some (.aload_n 1) := by decide +kernel
theorem F_Judge_faultAmong_106 : fetch m_Judge_faultAmong 106 = some (.aload_n 2) := by decide +kernel
theorem F_Judge_faultAmong_107 : fetch m_Judge_faultAmong 107 = some (.invokevirtual 104) := by decide +kernel
theorem F_Judge_faultAmong_110 : fetch m_Judge_faultAmong 110 = some (.putfield 67) := by decide +kernel
theorem F_Judge_faultAmong_113 : fetch m_Judge_faultAmong 113 = some (.aload_n 0) := by decide +kernel
theorem F_Judge_faultAmong_114 : fetch m_Judge_faultAmong 114 = some (.getfield 67) := by decide +kernel
theorem F_Judge_faultAmong_117 : fetch m_Judge_faultAmong 117 = some (.iconst (-1)) := by decide +kernel
theorem F_Judge_faultAmong_118 : fetch m_Judge_faultAmong 118 = some (.if_icmp .eq 7) := by decide +kernel
theorem F_Judge_faultAmong_121 : fetch m_Judge_faultAmong 121 = some (.iconst 5) := by decide +kernel
theorem F_Judge_faultAmong_122 : fetch m_Judge_faultAmong 122 = some (.goto 4) := by decide +kernel
theorem F_Judge_faultAmong_125 : fetch m_Judge_faultAmong 125 = some (.iconst 0) := by decide +kernel
theorem F_Judge_faultAmong_126 : fetch m_Judge_faultAmong 126 = some (.ireturn) := by decide +kernel
theorem F_Judge_findInterference_0 : fetch m_Judge_findInterference 0 = some (.iload_n 3) := by decide +kernel
theorem F_Judge_findInterference_1 : fetch m_Judge_findInterference 1 = some (.istore 5) := by decide +kernel
theorem F_Judge_findInterference_3 : fetch m_Judge_findInterference 3 = some (.iload 5) := by decide +kernel
theorem F_Judge_findInterference_5 : fetch m_Judge_findInterference 5 = some (.iload 4) := by decide +kernel
theorem F_Judge_findInterference_7 : fetch m_Judge_findInterference 7 = some (.if_icmp .ge 63) := by decide +kernel
theorem F_Judge_findInterference_10 : fetch m_Judge_findInterference 10 = some (.iconst 0) := by decide +kernel
theorem F_Judge_findInterference_11 : fetch m_Judge_findInterference 11 = some (.istore 6) := by decide +kernel
theorem F_Judge_findInterference_13 : fetch m_Judge_findInterference 13 = some (.iload 6) := by decide +kernel
theorem F_Judge_findInterference_15 : fetch m_Judge_findInterference 15 = some (.iload 4) := by decide +kernel
theorem F_Judge_findInterference_17 : fetch m_Judge_findInterference 17 = some (.if_icmp .ge 47) := by decide +kernel
theorem F_Judge_findInterference_20 : fetch m_Judge_findInterference 20 = some (.iload 6) := by decide +kernel
theorem F_Judge_findInterference_22 : fetch m_Judge_findInterference 22 = some (.iload 5) := by decide +kernel
theorem F_Judge_findInterference_24 : fetch m_Judge_findInterference 24 = some (.if_icmp .eq 34) := by decide +kernel
theorem F_Judge_findInterference_27 : fetch m_Judge_findInterference 27 = some (.aload_n 0) := by decide +kernel
theorem F_Judge_findInterference_28 : fetch m_Judge_findInterference 28 = some (.aload_n 1) := by decide +kernel
theorem F_Judge_findInterference_29 : fetch m_Judge_findInterference 29 = some (.aload_n 2) := by decide +kernel
theorem F_Judge_findInterference_30 : fetch m_Judge_findInterference 30 = some (.aload_n 0) := by decide +kernel
theorem F_Judge_findInterference_31 : fetch m_Judge_findInterference 31 = some (.getfield 20) := by decide +kernel
theorem F_Judge_findInterference_34 : fetch m_Judge_findInterference 34 = some (.iload 5) := by decide +kernel
theorem F_Judge_findInterference_36 : fetch m_Judge_findInterference 36 = some (.iaload) := by decide +kernel
theorem F_Judge_findInterference_37 : fetch m_Judge_findInterference 37 = some (.aload_n 0) := by decide +kernel
theorem F_Judge_findInterference_38 : fetch m_Judge_findInterference 38 = some (.getfield 20) := by decide +kernel
theorem F_Judge_findInterference_41 : fetch m_Judge_findInterference 41 = some (.iload 6) := by decide +kernel
theorem F_Judge_findInterference_43 : fetch m_Judge_findInterference 43 = some (.iaload) := by decide +kernel
theorem F_Judge_findInterference_44 : fetch m_Judge_findInterference 44 = some (.invokevirtual 108) := by decide +kernel
theorem F_Judge_findInterference_47 : fetch m_Judge_findInterference 47 = some (.ifCond .eq 11) := by decide +kernel
theorem F_Judge_findInterference_50 : fetch m_Judge_findInterference 50 = some (.aload_n 0) := by decide +kernel
theorem F_Judge_findInterference_51 : fetch m_Judge_findInterference 51 = some (.getfield 20) := by decide +kernel
theorem F_Judge_findInterference_54 : fetch m_Judge_findInterference 54 = some (.iload 5) := by decide +kernel
theorem F_Judge_findInterference_56 : fetch m_Judge_findInterference 56 = some (.iaload) := by decide +kernel
theorem F_Judge_findInterference_57 : fetch m_Judge_findInterference 57 = some (.ireturn) := by decide +kernel
theorem F_Judge_findInterference_58 : fetch m_Judge_findInterference 58 = some (.iinc 6 1) := by decide +kernel
theorem F_Judge_findInterference_61 : fetch m_Judge_findInterference 61 = some (.goto (-48)) := by decide +kernel
theorem F_Judge_findInterference_64 : fetch m_Judge_findInterference 64 = some (.iinc 5 1) := by decide +kernel
theorem F_Judge_findInterference_67 : fetch m_Judge_findInterference 67 = some (.goto (-64)) := by decide +kernel
theorem F_Judge_findInterference_70 : fetch m_Judge_findInterference 70 = some (.iconst (-1)) := by decide +kernel
theorem F_Judge_findInterference_71 : fetch m_Judge_findInterference 71 = some (.ireturn) := by decide +kernel
theorem F_Judge_areTooNear_0 : fetch m_Judge_areTooNear 0 = some (.aload_n 1) := by decide +kernel
theorem F_Judge_areTooNear_1 : fetch m_Judge_areTooNear 1 = some (.aload_n 2) := by decide +kernel
theorem F_Judge_areTooNear_2 : fetch m_Judge_areTooNear 2 = some (.iload_n 3) := by decide +kernel
theorem F_Judge_areTooNear_3 : fetch m_Judge_areTooNear 3 = some (.invokestatic 112) := by decide +kernel
theorem F_Judge_areTooNear_6 : fetch m_Judge_areTooNear 6 = some (.astore 5) := by decide +kernel
theorem F_Judge_areTooNear_8 : fetch m_Judge_areTooNear 8 = some (.aload_n 1) := by decide +kernel
theorem F_Judge_areTooNear_9 : fetch m_Judge_areTooNear 9 = some (.aload_n 2) := by decide +kernel
theorem F_Judge_areTooNear_10 : fetch m_Judge_areTooNear 10 = some (.iload 4) := by decide +kernel
theorem F_Judge_areTooNear_12 : fetch m_Judge_areTooNear 12 = some (.invokestatic 112) := by decide +kernel
theorem F_Judge_areTooNear_15 : fetch m_Judge_areTooNear 15 = some (.astore 6) := by decide +kernel
theorem F_Judge_areTooNear_17 : fetch m_Judge_areTooNear 17 = some (.aload 5) := by decide +kernel
theorem F_Judge_areTooNear_19 : fetch m_Judge_areTooNear 19 = some (.iload_n 3) := by decide +kernel
theorem F_Judge_areTooNear_20 : fetch m_Judge_areTooNear 20 = some (.invokestatic 116) := by decide +kernel
theorem F_Judge_areTooNear_23 : fetch m_Judge_areTooNear 23 = some (.aload 6) := by decide +kernel
theorem F_Judge_areTooNear_25 : fetch m_Judge_areTooNear 25 = some (.iload 4) := by decide +kernel
theorem F_Judge_areTooNear_27 : fetch m_Judge_areTooNear 27 = some (.invokestatic 116) := by decide +kernel
theorem F_Judge_areTooNear_30 : fetch m_Judge_areTooNear 30 = some (.invokevirtual 120) := by decide +kernel
theorem F_Judge_areTooNear_33 : fetch m_Judge_areTooNear 33 = some (.ifCond .ne 5) := by decide +kernel
theorem F_Judge_areTooNear_36 : fetch m_Judge_areTooNear 36 = some (.iconst 0) := by decide +kernel
theorem F_Judge_areTooNear_37 : fetch m_Judge_areTooNear 37 = some (.ireturn) := by decide +kernel
theorem F_Judge_areTooNear_38 : fetch m_Judge_areTooNear 38 = some (.aload_n 0) := by decide +kernel
theorem F_Judge_areTooNear_39 : fetch m_Judge_areTooNear 39 = some (.getfield 24) := by decide +kernel
theorem F_Judge_areTooNear_42 : fetch m_Judge_areTooNear 42 = some (.iconst 0) := by decide +kernel
theorem F_Judge_areTooNear_43 : fetch m_Judge_areTooNear 43 = some (.aload_n 0) := by decide +kernel
theorem F_Judge_areTooNear_44 : fetch m_Judge_areTooNear 44 = some (.getfield 14) := by decide +kernel
theorem F_Judge_areTooNear_47 : fetch m_Judge_areTooNear 47 = some (.iload_n 3) := by decide +kernel
theorem F_Judge_areTooNear_48 : fetch m_Judge_areTooNear 48 = some (.invokevirtual 77) := by decide +kernel
theorem F_Judge_areTooNear_51 : fetch m_Judge_areTooNear 51 = some (.aload_n 0) := by decide +kernel
theorem F_Judge_areTooNear_52 : fetch m_Judge_areTooNear 52 = some (.getfield 24) := by decide +kernel
theorem F_Judge_areTooNear_55 : fetch m_Judge_areTooNear 55 = some (.iconst 0) := by decide +kernel
theorem F_Judge_areTooNear_56 : fetch m_Judge_areTooNear 56 = some (.iconst 2) := by decide +kernel
theorem F_Judge_areTooNear_57 : fetch m_Judge_areTooNear 57 = some (.aload_n 0) := by decide +kernel
theorem F_Judge_areTooNear_58 : fetch m_Judge_areTooNear 58 = some (.getfield 14) := by decide +kernel
theorem F_Judge_areTooNear_61 : fetch m_Judge_areTooNear 61 = some (.iload 4) := by decide +kernel
theorem F_Judge_areTooNear_63 : fetch m_Judge_areTooNear 63 = some (.invokevirtual 88) := by decide +kernel
theorem F_Judge_areTooNear_66 : fetch m_Judge_areTooNear 66 = some (.aload_n 0) := by decide +kernel
theorem F_Judge_areTooNear_67 : fetch m_Judge_areTooNear 67 = some (.getfield 24) := by decide +kernel
theorem F_Judge_areTooNear_70 : fetch m_Judge_areTooNear 70 = some (.iconst 0) := by decide +kernel
theorem F_Judge_areTooNear_71 : fetch m_Judge_areTooNear 71 = some (.aload_n 1) := by decide +kernel
theorem F_Judge_areTooNear_72 : fetch m_Judge_areTooNear 72 = some (.getfield 126) := by decide +kernel
theorem F_Judge_areTooNear_75 : fetch m_Judge_areTooNear 75 = some (.iconst 0) := by decide +kernel
theorem F_Judge_areTooNear_76 : fetch m_Judge_areTooNear 76 = some (.invokevirtual 59) := by decide +kernel
theorem F_Judge_areTooNear_79 : fetch m_Judge_areTooNear 79 = some (.ifCond .ge 7) := by decide +kernel
theorem F_Judge_areTooNear_82 : fetch m_Judge_areTooNear 82 = some (.iconst 1) := by decide +kernel
theorem F_Judge_areTooNear_83 : fetch m_Judge_areTooNear 83 = some (.goto 4) := by decide +kernel
theorem F_Judge_areTooNear_86 : fetch m_Judge_areTooNear 86 = some (.iconst 0) := by decide +kernel
theorem F_Judge_areTooNear_87 : fetch m_Judge_areTooNear 87 = some (.ireturn) := by decide +kernel
theorem F_Judge_actionAt_0 : fetch m_Judge_actionAt 0 = some (.aload_n 0) := by decide +kernel
theorem F_Judge_actionAt_1 : fetch m_Judge_actionAt 1 = some (.getfield 144) := by decide +kernel
theorem F_Judge_actionAt_4 : fetch m_Judge_actionAt 4 = some (.aload_n 1) := by decide +kernel
theorem F_Judge_actionAt_5 : fetch m_Judge_actionAt 5 = some (.getfield 148) := by decide +kernel
theorem F_Judge_actionAt_8 : fetch m_Judge_actionAt 8 = some (.iload_n 2) := by decide +kernel
theorem F_Judge_actionAt_9 : fetch m_Judge_actionAt 9 = some (.iconst 2) := by decide +kernel
theorem F_Judge_actionAt_10 : fetch m_Judge_actionAt 10 = some (.idiv) := by decide +kernel
theorem F_Judge_actionAt_11 : fetch m_Judge_actionAt 11 = some (.iaload) := by decide +kernel
theorem F_Judge_actionAt_12 : fetch m_Judge_actionAt 12 = some (.invokevirtual 151) := by decide +kernel
theorem F_Judge_actionAt_15 : fetch m_Judge_actionAt 15 = some (.checkcast 121) := by decide +kernel
theorem F_Judge_actionAt_18 : fetch m_Judge_actionAt 18 = some (.areturn) := by decide +kernel
theorem F_Action_interferes_0 : fetch m_Action_interferes 0 = some (.aload_n 0) := by decide +kernel
theorem F_Action_interferes_1 : fetch m_Action_interferes 1 = some (.getfield 39) := by decide +kernel
theorem F_Action_interferes_4 : fetch m_Action_interferes 4 = some (.iload_n 1) := by decide +kernel
theorem F_Action_interferes_5 : fetch m_Action_interferes 5 = some (.iaload) := by decide +kernel
theorem F_Action_interferes_6 : fetch m_Action_interferes 6 = some (.iload_n 1) := by decide +kernel
theorem F_Action_interferes_7 : fetch m_Action_interferes 7 = some (.ifCond .ne 10) := by decide +kernel
theorem F_Action_interferes_10 : fetch m_Action_interferes 10 = some (.aload_n 0) := by decide +kernel
theorem F_Action_interferes_11 : fetch m_Action_interferes 11 = some (.getfield 80) := by decide +kernel
theorem F_Action_interferes_14 : fetch m_Action_interferes 14 = some (.goto 4) := by decide +kernel
theorem F_Action_interferes_17 : fetch m_Action_interferes 17 = some (.iconst 0) := by decide +kernel
theorem F_Action_interferes_18 : fetch m_Action_interferes 18 = some (.ior) := by decide +kernel
theorem F_Action_interferes_19 : fetch m_Action_interferes 19 = some (.istore 4) := by decide +kernel
theorem F_Action_interferes_21 : fetch m_Action_interferes 21 = some (.aload_n 2) := by decide +kernel
theorem F_Action_interferes_22 : fetch m_Action_interferes 22 = some (.getfield 39) := by decide +kernel
theorem F_Action_interferes_25 : fetch m_Action_interferes 25 = some (.iload_n 3) := by decide +kernel
theorem F_Action_interferes_26 : fetch m_Action_interferes 26 = some (.iaload) := by decide +kernel
theorem F_Action_interferes_27 : fetch m_Action_interferes 27 = some (.iload_n 3) := by decide +kernel
theorem F_Action_interferes_28 : fetch m_Action_interferes 28 = some (.ifCond .ne 10) := by decide +kernel
theorem F_Action_interferes_31 : fetch m_Action_interferes 31 = some (.aload_n 2) := by decide +kernel
theorem F_Action_interferes_32 : fetch m_Action_interferes 32 = some (.getfield 80) := by decide +kernel
theorem F_Action_interferes_35 : fetch m_Action_interferes 35 = some (.goto 4) := by decide +kernel
theorem F_Action_interferes_38 : fetch m_Action_interferes 38 = some (.iconst 0) := by decide +kernel
theorem F_Action_interferes_39 : fetch m_Action_interferes 39 = some (.ior) := by decide +kernel
theorem F_Action_interferes_40 : fetch m_Action_interferes 40 = some (.istore 5) := by decide +kernel
theorem F_Action_interferes_42 : fetch m_Action_interferes 42 = some (.aload_n 0) := by decide +kernel
theorem F_Action_interferes_43 : fetch m_Action_interferes 43 = some (.getfield 36) := by decide +kernel
theorem F_Action_interferes_46 : fetch m_Action_interferes 46 = some (.iload_n 1) := by decide +kernel
theorem F_Action_interferes_47 : fetch m_Action_interferes 47 = some (.iaload) := by decide +kernel
theorem F_Action_interferes_48 : fetch m_Action_interferes 48 = some (.iload 5) := by decide +kernel
theorem F_Action_interferes_50 : fetch m_Action_interferes 50 = some (.iand) := by decide +kernel
theorem F_Action_interferes_51 : fetch m_Action_interferes 51 = some (.aload_n 2) := by decide +kernel
theorem F_Action_interferes_52 : fetch m_Action_interferes 52 = some (.getfield 36) := by decide +kernel
theorem F_Action_interferes_55 : fetch m_Action_interferes 55 = some (.iload_n 3) := by decide +kernel
theorem F_Action_interferes_56 : fetch m_Action_interferes 56 = some (.iaload) := by decide +kernel
theorem F_Action_interferes_57 : fetch m_Action_interferes 57 = some (.iload 4) := by decide +kernel
theorem F_Action_interferes_59 : fetch m_Action_interferes 59 = some (.iand) := by decide +kernel
theorem F_Action_interferes_60 : fetch m_Action_interferes 60 = some (.ior) := by decide +kernel
theorem F_Action_interferes_61 : fetch m_Action_interferes 61 = some (.aload_n 0) := by decide +kernel
theorem F_Action_interferes_62 : fetch m_Action_interferes 62 = some (.getfield 27) := by decide +kernel
theorem F_Action_interferes_65 : fetch m_Action_interferes 65 = some (.iload_n 1) := by decide +kernel
theorem F_Action_interferes_66 : fetch m_Action_interferes 66 = some (.iaload) := by decide +kernel
theorem F_Action_interferes_67 : fetch m_Action_interferes 67 = some (.aload_n 2) := by decide +kernel
theorem F_Action_interferes_68 : fetch m_Action_interferes 68 = some (.getfield 30) := by decide +kernel
theorem F_Action_interferes_71 : fetch m_Action_interferes 71 = some (.iload_n 3) := by decide +kernel
theorem F_Action_interferes_72 : fetch m_Action_interferes 72 = some (.iaload) := by decide +kernel
theorem F_Action_interferes_73 : fetch m_Action_interferes 73 = some (.iand) := by decide +kernel
theorem F_Action_interferes_74 : fetch m_Action_interferes 74 = some (.ior) := by decide +kernel
theorem F_Action_interferes_75 : fetch m_Action_interferes 75 = some (.aload_n 0) := by decide +kernel
theorem F_Action_interferes_76 : fetch m_Action_interferes 76 = some (.getfield 30) := by decide +kernel
theorem F_Action_interferes_79 : fetch m_Action_interferes 79 = some (.iload_n 1) := by decide +kernel
theorem F_Action_interferes_80 : fetch m_Action_interferes 80 = some (.iaload) := by decide +kernel
theorem F_Action_interferes_81 : fetch m_Action_interferes 81 = some (.aload_n 2) := by decide +kernel
theorem F_Action_interferes_82 : fetch m_Action_interferes 82 = some (.getfield 27) := by decide +kernel
theorem F_Action_interferes_85 : fetch m_Action_interferes 85 = some (.iload_n 3) := by decide +kernel
theorem F_Action_interferes_86 : fetch m_Action_interferes 86 = some (.iaload) := by decide +kernel
theorem F_Action_interferes_87 : fetch m_Action_interferes 87 = some (.iand) := by decide +kernel
theorem F_Action_interferes_88 : fetch m_Action_interferes 88 = some (.ior) := by decide +kernel
theorem F_Action_interferes_89 : fetch m_Action_interferes 89 = some (.ifCond .eq 7) := by decide +kernel
theorem F_Action_interferes_92 : fetch m_Action_interferes 92 = some (.iconst 1) := by decide +kernel
theorem F_Action_interferes_93 : fetch m_Action_interferes 93 = some (.goto 4) := by decide +kernel
theorem F_Action_interferes_96 : fetch m_Action_interferes 96 = some (.iconst 0) := by decide +kernel
theorem F_Action_interferes_97 : fetch m_Action_interferes 97 = some (.ireturn) := by decide +kernel
theorem F_Judge_findUnmetNeed_0 : fetch m_Judge_findUnmetNeed 0 = some (.iload_n 3) := by decide +kernel
theorem F_Judge_findUnmetNeed_1 : fetch m_Judge_findUnmetNeed 1 = some (.istore 5) := by decide +kernel
theorem F_Judge_findUnmetNeed_3 : fetch m_Judge_findUnmetNeed 3 = some (.iload 5) := by decide +kernel
theorem F_Judge_findUnmetNeed_5 : fetch m_Judge_findUnmetNeed 5 = some (.iload 4) := by decide +kernel
theorem F_Judge_findUnmetNeed_7 : fetch m_Judge_findUnmetNeed 7 = some (.if_icmp .ge 49) := by decide +kernel
theorem F_Judge_findUnmetNeed_10 : fetch m_Judge_findUnmetNeed 10 = some (.aload_n 1) := by decide +kernel
theorem F_Judge_findUnmetNeed_11 : fetch m_Judge_findUnmetNeed 11 = some (.aload_n 2) := by decide +kernel
theorem F_Judge_findUnmetNeed_12 : fetch m_Judge_findUnmetNeed 12 = some (.aload_n 0) := by decide +kernel
theorem F_Judge_findUnmetNeed_13 : fetch m_Judge_findUnmetNeed 13 = some (.getfield 20) := by decide +kernel
theorem F_Judge_findUnmetNeed_16 : fetch m_Judge_findUnmetNeed 16 = some (.iload 5) := by decide +kernel
theorem F_Judge_findUnmetNeed_18 : fetch m_Judge_findUnmetNeed 18 = some (.iaload) := by decide +kernel
theorem F_Judge_findUnmetNeed_19 : fetch m_Judge_findUnmetNeed 19 = some (.invokestatic 112) := by decide +kernel
theorem F_Judge_findUnmetNeed_22 : fetch m_Judge_findUnmetNeed 22 = some (.aload_n 0) := by decide +kernel
theorem F_Judge_findUnmetNeed_23 : fetch m_Judge_findUnmetNeed 23 = some (.getfield 30) := by decide +kernel
theorem F_Judge_findUnmetNeed_26 : fetch m_Judge_findUnmetNeed 26 = some (.aload_n 0) := by decide +kernel
theorem F_Judge_findUnmetNeed_27 : fetch m_Judge_findUnmetNeed 27 = some (.getfield 20) := by decide +kernel
theorem F_Judge_findUnmetNeed_30 : fetch m_Judge_findUnmetNeed 30 = some (.iload 5) := by decide +kernel
theorem F_Judge_findUnmetNeed_32 : fetch m_Judge_findUnmetNeed 32 = some (.iaload) := by decide +kernel
theorem F_Judge_findUnmetNeed_33 : fetch m_Judge_findUnmetNeed 33 = some (.invokestatic 116) := by decide +kernel
theorem F_Judge_findUnmetNeed_36 : fetch m_Judge_findUnmetNeed 36 = some (.invokevirtual 129) := by decide +kernel
theorem F_Judge_findUnmetNeed_39 : fetch m_Judge_findUnmetNeed 39 = some (.ifCond .ne 11) := by decide +kernel
theorem F_Judge_findUnmetNeed_42 : fetch m_Judge_findUnmetNeed 42 = some (.aload_n 0) := by decide +kernel
theorem F_Judge_findUnmetNeed_43 : fetch m_Judge_findUnmetNeed 43 = some (.getfield 20) := by decide +kernel
theorem F_Judge_findUnmetNeed_46 : fetch m_Judge_findUnmetNeed 46 = some (.iload 5) := by decide +kernel
theorem F_Judge_findUnmetNeed_48 : fetch m_Judge_findUnmetNeed 48 = some (.iaload) := by decide +kernel
theorem F_Judge_findUnmetNeed_49 : fetch m_Judge_findUnmetNeed 49 = some (.ireturn) := by decide +kernel
theorem F_Judge_findUnmetNeed_50 : fetch m_Judge_findUnmetNeed 50 = some (.iinc 5 1) := by decide +kernel
theorem F_Judge_findUnmetNeed_53 : fetch m_Judge_findUnmetNeed 53 = some (.goto (-50)) := by decide +kernel
theorem F_Judge_findUnmetNeed_56 : fetch m_Judge_findUnmetNeed 56 = some (.iconst (-1)) := by decide +kernel
theorem F_Judge_findUnmetNeed_57 : fetch m_Judge_findUnmetNeed 57 = some (.ireturn) := by decide +kernel
theorem F_Action_isMet_0 : fetch m_Action_isMet 0 = some (.aload_n 1) := by decide +kernel
theorem F_Action_isMet_1 : fetch m_Action_isMet 1 = some (.aload_n 0) := by decide +kernel
theorem F_Action_isMet_2 : fetch m_Action_isMet 2 = some (.getfield 9) := by decide +kernel
theorem F_Action_isMet_5 : fetch m_Action_isMet 5 = some (.iload_n 2) := by decide +kernel
theorem F_Action_isMet_6 : fetch m_Action_isMet 6 = some (.iaload) := by decide +kernel
theorem F_Action_isMet_7 : fetch m_Action_isMet 7 = some (.aload_n 0) := by decide +kernel
theorem F_Action_isMet_8 : fetch m_Action_isMet 8 = some (.getfield 15) := by decide +kernel
theorem F_Action_isMet_11 : fetch m_Action_isMet 11 = some (.iload_n 2) := by decide +kernel
theorem F_Action_isMet_12 : fetch m_Action_isMet 12 = some (.iaload) := by decide +kernel
theorem F_Action_isMet_13 : fetch m_Action_isMet 13 = some (.invokevirtual 83) := by decide +kernel
theorem F_Action_isMet_16 : fetch m_Action_isMet 16 = some (.ifCond .ne 5) := by decide +kernel
theorem F_Action_isMet_19 : fetch m_Action_isMet 19 = some (.iconst 0) := by decide +kernel
theorem F_Action_isMet_20 : fetch m_Action_isMet 20 = some (.ireturn) := by decide +kernel
theorem F_Action_isMet_21 : fetch m_Action_isMet 21 = some (.iconst 0) := by decide +kernel
theorem F_Action_isMet_22 : fetch m_Action_isMet 22 = some (.istore_n 3) := by decide +kernel
theorem F_Action_isMet_23 : fetch m_Action_isMet 23 = some (.iload_n 3) := by decide +kernel
theorem F_Action_isMet_24 : fetch m_Action_isMet 24 = some (.aload_n 0) := by decide +kernel
theorem F_Action_isMet_25 : fetch m_Action_isMet 25 = some (.getfield 23) := by decide +kernel
theorem F_Action_isMet_28 : fetch m_Action_isMet 28 = some (.getfield 89) := by decide +kernel
theorem F_Action_isMet_31 : fetch m_Action_isMet 31 = some (.if_icmp .ge 60) := by decide +kernel
theorem F_Action_isMet_34 : fetch m_Action_isMet 34 = some (.aload_n 0) := by decide +kernel
theorem F_Action_isMet_35 : fetch m_Action_isMet 35 = some (.getfield 23) := by decide +kernel
theorem F_Action_isMet_38 : fetch m_Action_isMet 38 = some (.getfield 92) := by decide +kernel
theorem F_Action_isMet_41 : fetch m_Action_isMet 41 = some (.iload_n 3) := by decide +kernel
theorem F_Action_isMet_42 : fetch m_Action_isMet 42 = some (.iaload) := by decide +kernel
theorem F_Action_isMet_43 : fetch m_Action_isMet 43 = some (.iload_n 2) := by decide +kernel
theorem F_Action_isMet_44 : fetch m_Action_isMet 44 = some (.if_icmp .ne 41) := by decide +kernel
theorem F_Action_isMet_47 : fetch m_Action_isMet 47 = some (.aload_n 1) := by decide +kernel
theorem F_Action_isMet_48 : fetch m_Action_isMet 48 = some (.getfield 95) := by decide +kernel
theorem F_Action_isMet_51 : fetch m_Action_isMet 51 = some (.aload_n 0) := by decide +kernel
theorem F_Action_isMet_52 : fetch m_Action_isMet 52 = some (.getfield 23) := by decide +kernel
theorem F_Action_isMet_55 : fetch m_Action_isMet 55 = some (.getfield 98) := by decide +kernel
theorem F_Action_isMet_58 : fetch m_Action_isMet 58 = some (.iload_n 3) := by decide +kernel
theorem F_Action_isMet_59 : fetch m_Action_isMet 59 = some (.iaload) := by decide +kernel
theorem F_Action_isMet_60 : fetch m_Action_isMet 60 = some (.aload_n 0) := by decide +kernel
theorem F_Action_isMet_61 : fetch m_Action_isMet 61 = some (.getfield 23) := by decide +kernel
theorem F_Action_isMet_64 : fetch m_Action_isMet 64 = some (.getfield 101) := by decide +kernel
theorem F_Action_isMet_67 : fetch m_Action_isMet 67 = some (.iload_n 3) := by decide +kernel
theorem F_Action_isMet_68 : fetch m_Action_isMet 68 = some (.iaload) := by decide +kernel
theorem F_Action_isMet_69 : fetch m_Action_isMet 69 = some (.aload_n 0) := by decide +kernel
theorem F_Action_isMet_70 : fetch m_Action_isMet 70 = some (.getfield 23) := by decide +kernel
theorem F_Action_isMet_73 : fetch m_Action_isMet 73 = some (.getfield 104) := by decide +kernel
theorem F_Action_isMet_76 : fetch m_Action_isMet 76 = some (.iload_n 3) := by decide +kernel
theorem F_Action_isMet_77 : fetch m_Action_isMet 77 = some (.invokevirtual 107) := by decide +kernel
theorem F_Action_isMet_80 : fetch m_Action_isMet 80 = some (.ifCond .ne 5) := by decide +kernel
theorem F_Action_isMet_83 : fetch m_Action_isMet 83 = some (.iconst 0) := by decide +kernel
theorem F_Action_isMet_84 : fetch m_Action_isMet 84 = some (.ireturn) := by decide +kernel
theorem F_Action_isMet_85 : fetch m_Action_isMet 85 = some (.iinc 3 1) := by decide +kernel
theorem F_Action_isMet_88 : fetch m_Action_isMet 88 = some (.goto (-65)) := by decide +kernel
theorem F_Action_isMet_91 : fetch m_Action_isMet 91 = some (.iconst 1) := by decide +kernel
theorem F_Action_isMet_92 : fetch m_Action_isMet 92 = some (.ireturn) := by decide +kernel
theorem F_Judge_findWrongDuration_0 : fetch m_Judge_findWrongDuration 0 = some (.iload_n 3) := by decide +kernel
theorem F_Judge_findWrongDuration_1 : fetch m_Judge_findWrongDuration 1 = some (.istore 5) := by decide +kernel
theorem F_Judge_findWrongDuration_3 : fetch m_Judge_findWrongDuration 3 = some (.iload 5) := by decide +kernel
theorem F_Judge_findWrongDuration_5 : fetch m_Judge_findWrongDuration 5 = some (.iload 4) := by decide +kernel
theorem F_Judge_findWrongDuration_7 : fetch m_Judge_findWrongDuration 7 = some (.if_icmp .ge 48) := by decide +kernel
theorem F_Judge_findWrongDuration_10 : fetch m_Judge_findWrongDuration 10 = some (.aload_n 0) := by decide +kernel
theorem F_Judge_findWrongDuration_11 : fetch m_Judge_findWrongDuration 11 = some (.getfield 20) := by decide +kernel
theorem F_Judge_findWrongDuration_14 : fetch m_Judge_findWrongDuration 14 = some (.iload 5) := by decide +kernel
theorem F_Judge_findWrongDuration_16 : fetch m_Judge_findWrongDuration 16 = some (.iaload) := by decide +kernel
theorem F_Judge_findWrongDuration_17 : fetch m_Judge_findWrongDuration 17 = some (.invokestatic 81) := by decide +kernel
theorem F_Judge_findWrongDuration_20 : fetch m_Judge_findWrongDuration 20 = some (.ifCond .ne 29) := by decide +kernel
theorem F_Judge_findWrongDuration_23 : fetch m_Judge_findWrongDuration 23 = some (.aload_n 0) := by decide +kernel
theorem F_Judge_findWrongDuration_24 : fetch m_Judge_findWrongDuration 24 = some (.aload_n 1) := by decide +kernel
theorem F_Judge_findWrongDuration_25 : fetch m_Judge_findWrongDuration 25 = some (.aload_n 2) := by decide +kernel
theorem F_Judge_findWrongDuration_26 : fetch m_Judge_findWrongDuration 26 = some (.aload_n 0) := by decide +kernel
theorem F_Judge_findWrongDuration_27 : fetch m_Judge_findWrongDuration 27 = some (.getfield 20) := by decide +kernel
theorem F_Judge_findWrongDuration_30 : fetch m_Judge_findWrongDuration 30 = some (.iload 5) := by decide +kernel
theorem F_Judge_findWrongDuration_32 : fetch m_Judge_findWrongDuration 32 = some (.iaload) := by decide +kernel
theorem F_Judge_findWrongDuration_33 : fetch m_Judge_findWrongDuration 33 = some (.iconst 2) := by decide +kernel
theorem F_Judge_findWrongDuration_34 : fetch m_Judge_findWrongDuration 34 = some (.idiv) := by decide +kernel
theorem F_Judge_findWrongDuration_35 : fetch m_Judge_findWrongDuration 35 = some (.invokevirtual 133) := by decide +kernel
theorem F_Judge_findWrongDuration_38 : fetch m_Judge_findWrongDuration 38 = some (.ifCond .ne 11) := by decide +kernel
theorem F_Judge_findWrongDuration_41 : fetch m_Judge_findWrongDuration 41 = some (.aload_n 0) := by decide +kernel
theorem F_Judge_findWrongDuration_42 : fetch m_Judge_findWrongDuration 42 = some (.getfield 20) := by decide +kernel
theorem F_Judge_findWrongDuration_45 : fetch m_Judge_findWrongDuration 45 = some (.iload 5) := by decide +kernel
theorem F_Judge_findWrongDuration_47 : fetch m_Judge_findWrongDuration 47 = some (.iaload) := by decide +kernel
theorem F_Judge_findWrongDuration_48 : fetch m_Judge_findWrongDuration 48 = some (.ireturn) := by decide +kernel
theorem F_Judge_findWrongDuration_49 : fetch m_Judge_findWrongDuration 49 = some (.iinc 5 1) := by decide +kernel
theorem F_Judge_findWrongDuration_52 : fetch m_Judge_findWrongDuration 52 = some (.goto (-49)) := by decide +kernel
theorem F_Judge_findWrongDuration_55 : fetch m_Judge_findWrongDuration 55 = some (.iconst (-1)) := by decide +kernel
theorem F_Judge_findWrongDuration_56 : fetch m_Judge_findWrongDuration 56 = some (.ireturn) := by decide +kernel
theorem F_Judge_isDurationRight_0 : fetch m_Judge_isDurationRight 0 = some (.aload_n 1) := by decide +kernel
theorem F_Judge_isDurationRight_1 : fetch m_Judge_isDurationRight 1 = some (.aload_n 2) := by decide +kernel
theorem F_Judge_isDurationRight_2 : fetch m_Judge_isDurationRight 2 = some (.iconst 2) := by decide +kernel
theorem F_Judge_isDurationRight_3 : fetch m_Judge_isDurationRight 3 = some (.iload_n 3) := by decide +kernel
theorem F_Judge_isDurationRight_4 : fetch m_Judge_isDurationRight 4 = some (.imul) := by decide +kernel
theorem F_Judge_isDurationRight_5 : fetch m_Judge_isDurationRight 5 = some (.invokestatic 112) := by decide +kernel
theorem F_Judge_isDurationRight_8 : fetch m_Judge_isDurationRight 8 = some (.astore 4) := by decide +kernel
theorem F_Judge_isDurationRight_10 : fetch m_Judge_isDurationRight 10 = some (.aload 4) := by decide +kernel
theorem F_Judge_isDurationRight_12 : fetch m_Judge_isDurationRight 12 = some (.iconst 0) := by decide +kernel
theorem F_Judge_isDurationRight_13 : fetch m_Judge_isDurationRight 13 = some (.aload_n 0) := by decide +kernel
theorem F_Judge_isDurationRight_14 : fetch m_Judge_isDurationRight 14 = some (.getfield 30) := by decide +kernel
theorem F_Judge_isDurationRight_17 : fetch m_Judge_isDurationRight 17 = some (.aload_n 0) := by decide +kernel
theorem F_Judge_isDurationRight_18 : fetch m_Judge_isDurationRight 18 = some (.getfield 24) := by decide +kernel
theorem F_Judge_isDurationRight_21 : fetch m_Judge_isDurationRight 21 = some (.iconst 0) := by decide +kernel
theorem F_Judge_isDurationRight_22 : fetch m_Judge_isDurationRight 22 = some (.invokevirtual 137) := by decide +kernel
theorem F_Judge_isDurationRight_25 : fetch m_Judge_isDurationRight 25 = some (.ifCond .eq 21) := by decide +kernel
theorem F_Judge_isDurationRight_28 : fetch m_Judge_isDurationRight 28 = some (.aload_n 2) := by decide +kernel
theorem F_Judge_isDurationRight_29 : fetch m_Judge_isDurationRight 29 = some (.getfield 85) := by decide +kernel
theorem F_Judge_isDurationRight_32 : fetch m_Judge_isDurationRight 32 = some (.iload_n 3) := by decide +kernel
theorem F_Judge_isDurationRight_33 : fetch m_Judge_isDurationRight 33 = some (.aload_n 0) := by decide +kernel
theorem F_Judge_isDurationRight_34 : fetch m_Judge_isDurationRight 34 = some (.getfield 24) := by decide +kernel
theorem F_Judge_isDurationRight_37 : fetch m_Judge_isDurationRight 37 = some (.iconst 0) := by decide +kernel
theorem F_Judge_isDurationRight_38 : fetch m_Judge_isDurationRight 38 = some (.invokevirtual 59) := by decide +kernel
theorem F_Judge_isDurationRight_41 : fetch m_Judge_isDurationRight 41 = some (.ifCond .ge 5) := by decide +kernel
theorem F_Judge_isDurationRight_44 : fetch m_Judge_isDurationRight 44 = some (.iconst 0) := by decide +kernel
theorem F_Judge_isDurationRight_45 : fetch m_Judge_isDurationRight 45 = some (.ireturn) := by decide +kernel
theorem F_Judge_isDurationRight_46 : fetch m_Judge_isDurationRight 46 = some (.aload 4) := by decide +kernel
theorem F_Judge_isDurationRight_48 : fetch m_Judge_isDurationRight 48 = some (.iconst 1) := by decide +kernel
theorem F_Judge_isDurationRight_49 : fetch m_Judge_isDurationRight 49 = some (.aload_n 0) := by decide +kernel
theorem F_Judge_isDurationRight_50 : fetch m_Judge_isDurationRight 50 = some (.getfield 30) := by decide +kernel
theorem F_Judge_isDurationRight_53 : fetch m_Judge_isDurationRight 53 = some (.aload_n 0) := by decide +kernel
theorem F_Judge_isDurationRight_54 : fetch m_Judge_isDurationRight 54 = some (.getfield 24) := by decide +kernel
theorem F_Judge_isDurationRight_57 : fetch m_Judge_isDurationRight 57 = some (.iconst 0) := by decide +kernel
theorem F_Judge_isDurationRight_58 : fetch m_Judge_isDurationRight 58 = some (.invokevirtual 137) := by decide +kernel
theorem F_Judge_isDurationRight_61 : fetch m_Judge_isDurationRight 61 = some (.ifCond .eq 19) := by decide +kernel
theorem F_Judge_isDurationRight_64 : fetch m_Judge_isDurationRight 64 = some (.aload_n 2) := by decide +kernel
theorem F_Judge_isDurationRight_65 : fetch m_Judge_isDurationRight 65 = some (.getfield 85) := by decide +kernel
theorem F_Judge_isDurationRight_68 : fetch m_Judge_isDurationRight 68 = some (.iload_n 3) := by decide +kernel
theorem F_Judge_isDurationRight_69 : fetch m_Judge_isDurationRight 69 = some (.aload_n 0) := by decide +kernel
theorem F_Judge_isDurationRight_70 : fetch m_Judge_isDurationRight 70 = some (.getfield 24) := by decide +kernel
theorem F_Judge_isDurationRight_73 : fetch m_Judge_isDurationRight 73 = some (.iconst 0) := by decide +kernel
theorem F_Judge_isDurationRight_74 : fetch m_Judge_isDurationRight 74 = some (.invokevirtual 59) := by decide +kernel
theorem F_Judge_isDurationRight_77 : fetch m_Judge_isDurationRight 77 = some (.ifCond .gt 7) := by decide +kernel
theorem F_Judge_isDurationRight_80 : fetch m_Judge_isDurationRight 80 = some (.iconst 1) := by decide +kernel
theorem F_Judge_isDurationRight_81 : fetch m_Judge_isDurationRight 81 = some (.goto 4) := by decide +kernel
theorem F_Judge_isDurationRight_84 : fetch m_Judge_isDurationRight 84 = some (.iconst 0) := by decide +kernel
theorem F_Judge_isDurationRight_85 : fetch m_Judge_isDurationRight 85 = some (.ireturn) := by decide +kernel
theorem F_Action_writeBound_0 : fetch m_Action_writeBound 0 = some (.aload_n 0) := by decide +kernel
theorem F_Action_writeBound_1 : fetch m_Action_writeBound 1 = some (.getfield 42) := by decide +kernel
theorem F_Action_writeBound_4 : fetch m_Action_writeBound 4 = some (.iload_n 1) := by decide +kernel
theorem F_Action_writeBound_5 : fetch m_Action_writeBound 5 = some (.iaload) := by decide +kernel
theorem F_Action_writeBound_6 : fetch m_Action_writeBound 6 = some (.istore 5) := by decide +kernel
theorem F_Action_writeBound_8 : fetch m_Action_writeBound 8 = some (.iload 5) := by decide +kernel
theorem F_Action_writeBound_10 : fetch m_Action_writeBound 10 = some (.bipush (-2)) := by decide +kernel
theorem F_Action_writeBound_12 : fetch m_Action_writeBound 12 = some (.if_icmp .ne 5) := by decide +kernel
theorem F_Action_writeBound_15 : fetch m_Action_writeBound 15 = some (.iconst 0) := by decide +kernel
theorem F_Action_writeBound_16 : fetch m_Action_writeBound 16 = some (.ireturn) := by decide +kernel
theorem F_Action_writeBound_17 : fetch m_Action_writeBound 17 = some (.iload 5) := by decide +kernel
theorem F_Action_writeBound_19 : fetch m_Action_writeBound 19 = some (.iconst (-1)) := by decide +kernel
theorem F_Action_writeBound_20 : fetch m_Action_writeBound 20 = some (.if_icmp .ne 17) := by decide +kernel
theorem F_Action_writeBound_23 : fetch m_Action_writeBound 23 = some (.aload_n 3) := by decide +kernel
theorem F_Action_writeBound_24 : fetch m_Action_writeBound 24 = some (.iload 4) := by decide +kernel
theorem F_Action_writeBound_26 : fetch m_Action_writeBound 26 = some (.aload_n 0) := by decide +kernel
theorem F_Action_writeBound_27 : fetch m_Action_writeBound 27 = some (.getfield 48) := by decide +kernel
theorem F_Action_writeBound_30 : fetch m_Action_writeBound 30 = some (.iload_n 1) := by decide +kernel
theorem F_Action_writeBound_31 : fetch m_Action_writeBound 31 = some (.invokevirtual 76) := by decide +kernel
theorem F_Action_writeBound_34 : fetch m_Action_writeBound 34 = some (.goto 49) := by decide +kernel
theorem F_Action_writeBound_37 : fetch m_Action_writeBound 37 = some (.aload_n 3) := by decide +kernel
theorem F_Action_writeBound_38 : fetch m_Action_writeBound 38 = some (.iload 4) := by decide +kernel
theorem F_Action_writeBound_40 : fetch m_Action_writeBound 40 = some (.aload_n 0) := by decide +kernel
theorem F_Action_writeBound_41 : fetch m_Action_writeBound 41 = some (.getfield 48) := by decide +kernel
theorem F_Action_writeBound_44 : fetch m_Action_writeBound 44 = some (.getfield 122) := by decide +kernel
theorem F_Action_writeBound_47 : fetch m_Action_writeBound 47 = some (.iload_n 1) := by decide +kernel
theorem F_Action_writeBound_48 : fetch m_Action_writeBound 48 = some (.laload) := by decide +kernel
theorem F_Action_writeBound_49 : fetch m_Action_writeBound 49 = some (.aload_n 2) := by decide +kernel
theorem F_Action_writeBound_50 : fetch m_Action_writeBound 50 = some (.getfield 95) := by decide +kernel
theorem F_Action_writeBound_53 : fetch m_Action_writeBound 53 = some (.getfield 122) := by decide +kernel
theorem F_Action_writeBound_56 : fetch m_Action_writeBound 56 = some (.iload 5) := by decide +kernel
theorem F_Action_writeBound_58 : fetch m_Action_writeBound 58 = some (.laload) := by decide +kernel
theorem F_Action_writeBound_59 : fetch m_Action_writeBound 59 = some (.lmul) := by decide +kernel
theorem F_Action_writeBound_60 : fetch m_Action_writeBound 60 = some (.aload_n 0) := by decide +kernel
theorem F_Action_writeBound_61 : fetch m_Action_writeBound 61 = some (.getfield 48) := by decide +kernel
theorem F_Action_writeBound_64 : fetch m_Action_writeBound 64 = some (.getfield 126) := by decide +kernel
theorem F_Action_writeBound_67 : fetch m_Action_writeBound 67 = some (.iload_n 1) := by decide +kernel
theorem F_Action_writeBound_68 : fetch m_Action_writeBound 68 = some (.laload) := by decide +kernel
theorem F_Action_writeBound_69 : fetch m_Action_writeBound 69 = some (.aload_n 2) := by decide +kernel
theorem F_Action_writeBound_70 : fetch m_Action_writeBound 70 = some (.getfield 95) := by decide +kernel
theorem F_Action_writeBound_73 : fetch m_Action_writeBound 73 = some (.getfield 126) := by decide +kernel
theorem F_Action_writeBound_76 : fetch m_Action_writeBound 76 = some (.iload 5) := by decide +kernel
theorem F_Action_writeBound_78 : fetch m_Action_writeBound 78 = some (.laload) := by decide +kernel
theorem F_Action_writeBound_79 : fetch m_Action_writeBound 79 = some (.lmul) := by decide +kernel
theorem F_Action_writeBound_80 : fetch m_Action_writeBound 80 = some (.invokevirtual 129) := by decide +kernel
theorem F_Action_writeBound_83 : fetch m_Action_writeBound 83 = some (.iconst 1) := by decide +kernel
theorem F_Action_writeBound_84 : fetch m_Action_writeBound 84 = some (.ireturn) := by decide +kernel
theorem F_Judge_doChanges_0 : fetch m_Judge_doChanges 0 = some (.aload_n 0) := by decide +kernel
theorem F_Judge_doChanges_1 : fetch m_Judge_doChanges 1 = some (.getfield 34) := by decide +kernel
theorem F_Judge_doChanges_4 : fetch m_Judge_doChanges 4 = some (.aload_n 0) := by decide +kernel
theorem F_Judge_doChanges_5 : fetch m_Judge_doChanges 5 = some (.getfield 30) := by decide +kernel
theorem F_Judge_doChanges_8 : fetch m_Judge_doChanges 8 = some (.invokevirtual 46) := by decide +kernel
theorem F_Judge_doChanges_11 : fetch m_Judge_doChanges 11 = some (.iload_n 3) := by decide +kernel
theorem F_Judge_doChanges_12 : fetch m_Judge_doChanges 12 = some (.istore 5) := by decide +kernel
theorem F_Judge_doChanges_14 : fetch m_Judge_doChanges 14 = some (.iload 5) := by decide +kernel
theorem F_Judge_doChanges_16 : fetch m_Judge_doChanges 16 = some (.iload 4) := by decide +kernel
theorem F_Judge_doChanges_18 : fetch m_Judge_doChanges 18 = some (.if_icmp .ge 69) := by decide +kernel
theorem F_Judge_doChanges_21 : fetch m_Judge_doChanges 21 = some (.aload_n 1) := by decide +kernel
theorem F_Judge_doChanges_22 : fetch m_Judge_doChanges 22 = some (.aload_n 2) := by decide +kernel
theorem F_Judge_doChanges_23 : fetch m_Judge_doChanges 23 = some (.aload_n 0) := by decide +kernel
theorem F_Judge_doChanges_24 : fetch m_Judge_doChanges 24 = some (.getfield 20) := by decide +kernel
theorem F_Judge_doChanges_27 : fetch m_Judge_doChanges 27 = some (.iload 5) := by decide +kernel
theorem F_Judge_doChanges_29 : fetch m_Judge_doChanges 29 = some (.iaload) := by decide +kernel
theorem F_Judge_doChanges_30 : fetch m_Judge_doChanges 30 = some (.invokestatic 112) := by decide +kernel
theorem F_Judge_doChanges_33 : fetch m_Judge_doChanges 33 = some (.aload_n 0) := by decide +kernel
theorem F_Judge_doChanges_34 : fetch m_Judge_doChanges 34 = some (.getfield 34) := by decide +kernel
theorem F_Judge_doChanges_37 : fetch m_Judge_doChanges 37 = some (.aload_n 0) := by decide +kernel
theorem F_Judge_doChanges_38 : fetch m_Judge_doChanges 38 = some (.getfield 20) := by decide +kernel
theorem F_Judge_doChanges_41 : fetch m_Judge_doChanges 41 = some (.iload 5) := by decide +kernel
theorem F_Judge_doChanges_43 : fetch m_Judge_doChanges 43 = some (.iaload) := by decide +kernel
theorem F_Judge_doChanges_44 : fetch m_Judge_doChanges 44 = some (.invokestatic 116) := by decide +kernel
theorem F_Judge_doChanges_47 : fetch m_Judge_doChanges 47 = some (.invokevirtual 141) := by decide +kernel
theorem F_Judge_doChanges_50 : fetch m_Judge_doChanges 50 = some (.ifCond .ne 11) := by decide +kernel
theorem F_Judge_doChanges_53 : fetch m_Judge_doChanges 53 = some (.aload_n 0) := by decide +kernel
theorem F_Judge_doChanges_54 : fetch m_Judge_doChanges 54 = some (.getfield 20) := by decide +kernel
theorem F_Judge_doChanges_57 : fetch m_Judge_doChanges 57 = some (.iload 5) := by decide +kernel
theorem F_Judge_doChanges_59 : fetch m_Judge_doChanges 59 = some (.iaload) := by decide +kernel
theorem F_Judge_doChanges_60 : fetch m_Judge_doChanges 60 = some (.ireturn) := by decide +kernel
theorem F_Judge_doChanges_61 : fetch m_Judge_doChanges 61 = some (.aload_n 0) := by decide +kernel
theorem F_Judge_doChanges_62 : fetch m_Judge_doChanges 62 = some (.dup) := by decide +kernel
theorem F_Judge_doChanges_63 : fetch m_Judge_doChanges 63 = some (.getfield 50) := by decide +kernel
theorem F_Judge_doChanges_66 : fetch m_Judge_doChanges 66 = some (.iconst 1) := by decide +kernel
theorem F_Judge_doChanges_67 : fetch m_Judge_doChanges 67 = some (.aload_n 0) := by decide +kernel
theorem F_Judge_doChanges_68 : fetch m_Judge_doChanges 68 = some (.getfield 20) := by decide +kernel
theorem F_Judge_doChanges_71 : fetch m_Judge_doChanges 71 = some (.iload 5) := by decide +kernel
theorem F_Judge_doChanges_73 : fetch m_Judge_doChanges 73 = some (.iaload) := by decide +kernel
theorem F_Judge_doChanges_74 : fetch m_Judge_doChanges 74 = some (.iconst 2) := by decide +kernel
theorem F_Judge_doChanges_75 : fetch m_Judge_doChanges 75 = some (.idiv) := by decide +kernel
theorem F_Judge_doChanges_76 : fetch m_Judge_doChanges 76 = some (.ishl) := by decide +kernel
theorem F_Judge_doChanges_77 : fetch m_Judge_doChanges 77 = some (.ixor) := by decide +kernel
theorem F_Judge_doChanges_78 : fetch m_Judge_doChanges 78 = some (.putfield 50) := by decide +kernel
theorem F_Judge_doChanges_81 : fetch m_Judge_doChanges 81 = some (.iinc 5 1) := by decide +kernel
theorem F_Judge_doChanges_84 : fetch m_Judge_doChanges 84 = some (.goto (-70)) := by decide +kernel
theorem F_Judge_doChanges_87 : fetch m_Judge_doChanges 87 = some (.iconst (-1)) := by decide +kernel
theorem F_Judge_doChanges_88 : fetch m_Judge_doChanges 88 = some (.ireturn) := by decide +kernel
theorem F_Action_changeState_0 : fetch m_Action_changeState 0 = some (.aload_n 1) := by decide +kernel
theorem F_Action_changeState_1 : fetch m_Action_changeState 1 = some (.aload_n 1) := by decide +kernel
theorem F_Action_changeState_2 : fetch m_Action_changeState 2 = some (.getfield 111) := by decide +kernel
theorem F_Action_changeState_5 : fetch m_Action_changeState 5 = some (.aload_n 0) := by decide +kernel
theorem F_Action_changeState_6 : fetch m_Action_changeState 6 = some (.getfield 30) := by decide +kernel
theorem F_Action_changeState_9 : fetch m_Action_changeState 9 = some (.iload_n 2) := by decide +kernel
theorem F_Action_changeState_10 : fetch m_Action_changeState 10 = some (.iaload) := by decide +kernel
theorem F_Action_changeState_11 : fetch m_Action_changeState 11 = some (.iconst (-1)) := by decide +kernel
theorem F_Action_changeState_12 : fetch m_Action_changeState 12 = some (.ixor) := by decide +kernel
theorem F_Action_changeState_13 : fetch m_Action_changeState 13 = some (.iand) := by decide +kernel
theorem F_Action_changeState_14 : fetch m_Action_changeState 14 = some (.aload_n 0) := by decide +kernel
theorem F_Action_changeState_15 : fetch m_Action_changeState 15 = some (.getfield 27) := by decide +kernel
theorem F_Action_changeState_18 : fetch m_Action_changeState 18 = some (.iload_n 2) := by decide +kernel
theorem F_Action_changeState_19 : fetch m_Action_changeState 19 = some (.iaload) := by decide +kernel
theorem F_Action_changeState_20 : fetch m_Action_changeState 20 = some (.ior) := by decide +kernel
theorem F_Action_changeState_21 : fetch m_Action_changeState 21 = some (.putfield 111) := by decide +kernel
theorem F_Action_changeState_24 : fetch m_Action_changeState 24 = some (.iconst 0) := by decide +kernel
theorem F_Action_changeState_25 : fetch m_Action_changeState 25 = some (.istore_n 3) := by decide +kernel
theorem F_Action_changeState_26 : fetch m_Action_changeState 26 = some (.iload_n 3) := by decide +kernel
theorem F_Action_changeState_27 : fetch m_Action_changeState 27 = some (.aload_n 0) := by decide +kernel
theorem F_Action_changeState_28 : fetch m_Action_changeState 28 = some (.getfield 33) := by decide +kernel
theorem F_Action_changeState_31 : fetch m_Action_changeState 31 = some (.getfield 89) := by decide +kernel
theorem F_Action_changeState_34 : fetch m_Action_changeState 34 = some (.if_icmp .ge 73) := by decide +kernel
theorem F_Action_changeState_37 : fetch m_Action_changeState 37 = some (.aload_n 0) := by decide +kernel
theorem F_Action_changeState_38 : fetch m_Action_changeState 38 = some (.getfield 33) := by decide +kernel
theorem F_Action_changeState_41 : fetch m_Action_changeState 41 = some (.getfield 92) := by decide +kernel
theorem F_Action_changeState_44 : fetch m_Action_changeState 44 = some (.iload_n 3) := by decide +kernel
theorem F_Action_changeState_45 : fetch m_Action_changeState 45 = some (.iaload) := by decide +kernel
theorem F_Action_changeState_46 : fetch m_Action_changeState 46 = some (.iload_n 2) := by decide +kernel
theorem F_Action_changeState_47 : fetch m_Action_changeState 47 = some (.if_icmp .ne 54) := by decide +kernel
theorem F_Action_changeState_50 : fetch m_Action_changeState 50 = some (.aload_n 0) := by decide +kernel
theorem F_Action_changeState_51 : fetch m_Action_changeState 51 = some (.getfield 33) := by decide +kernel
theorem F_Action_changeState_54 : fetch m_Action_changeState 54 = some (.getfield 98) := by decide +kernel
theorem F_Action_changeState_57 : fetch m_Action_changeState 57 = some (.iload_n 3) := by decide +kernel
theorem F_Action_changeState_58 : fetch m_Action_changeState 58 = some (.iaload) := by decide +kernel
theorem F_Action_changeState_59 : fetch m_Action_changeState 59 = some (.istore 4) := by decide +kernel
theorem F_Action_changeState_61 : fetch m_Action_changeState 61 = some (.aload_n 1) := by decide +kernel
theorem F_Action_changeState_62 : fetch m_Action_changeState 62 = some (.getfield 95) := by decide +kernel
theorem F_Action_changeState_65 : fetch m_Action_changeState 65 = some (.iload 4) := by decide +kernel
theorem F_Action_changeState_67 : fetch m_Action_changeState 67 = some (.aload_n 0) := by decide +kernel
theorem F_Action_changeState_68 : fetch m_Action_changeState 68 = some (.getfield 33) := by decide +kernel
theorem F_Action_changeState_71 : fetch m_Action_changeState 71 = some (.getfield 101) := by decide +kernel
theorem F_Action_changeState_74 : fetch m_Action_changeState 74 = some (.iload_n 3) := by decide +kernel
theorem F_Action_changeState_75 : fetch m_Action_changeState 75 = some (.iaload) := by decide +kernel
theorem F_Action_changeState_76 : fetch m_Action_changeState 76 = some (.aload_n 0) := by decide +kernel
theorem F_Action_changeState_77 : fetch m_Action_changeState 77 = some (.getfield 33) := by decide +kernel
theorem F_Action_changeState_80 : fetch m_Action_changeState 80 = some (.getfield 104) := by decide +kernel
theorem F_Action_changeState_83 : fetch m_Action_changeState 83 = some (.iload_n 3) := by decide +kernel
theorem F_Action_changeState_84 : fetch m_Action_changeState 84 = some (.invokevirtual 114) := by decide +kernel
theorem F_Action_changeState_87 : fetch m_Action_changeState 87 = some (.aload_n 1) := by decide +kernel
theorem F_Action_changeState_88 : fetch m_Action_changeState 88 = some (.getfield 95) := by decide +kernel
theorem F_Action_changeState_91 : fetch m_Action_changeState 91 = some (.iload 4) := by decide +kernel
theorem F_Action_changeState_93 : fetch m_Action_changeState 93 = some (.invokevirtual 118) := by decide +kernel
theorem F_Action_changeState_96 : fetch m_Action_changeState 96 = some (.ifCond .eq 5) := by decide +kernel
theorem F_Action_changeState_99 : fetch m_Action_changeState 99 = some (.iconst 0) := by decide +kernel
theorem F_Action_changeState_100 : fetch m_Action_changeState 100 = some (.ireturn) := by decide +kernel
theorem F_Action_changeState_101 : fetch m_Action_changeState 101 = some (.iinc 3 1) := by decide +kernel
theorem F_Action_changeState_104 : fetch m_Action_changeState 104 = some (.goto (-78)) := by decide +kernel
theorem F_Action_changeState_107 : fetch m_Action_changeState 107 = some (.iconst 1) := by decide +kernel
theorem F_Action_changeState_108 : fetch m_Action_changeState 108 = some (.ireturn) := by decide +kernel
theorem F_Judge_findUnmetAllOver_0 : fetch m_Judge_findUnmetAllOver 0 = some (.iconst 0) := by decide +kernel
theorem F_Judge_findUnmetAllOver_1 : fetch m_Judge_findUnmetAllOver 1 = some (.istore_n 3) := by decide +kernel
theorem F_Judge_findUnmetAllOver_2 : fetch m_Judge_findUnmetAllOver 2 = some (.iload_n 3) := by decide +kernel
theorem F_Judge_findUnmetAllOver_3 : fetch m_Judge_findUnmetAllOver 3 = some (.aload_n 2) := by decide +kernel
theorem F_Judge_findUnmetAllOver_4 : fetch m_Judge_findUnmetAllOver 4 = some (.getfield 54) := by decide +kernel
theorem F_Judge_findUnmetAllOver_7 : fetch m_Judge_findUnmetAllOver 7 = some (.if_icmp .ge 43) := by decide +kernel
theorem F_Judge_findUnmetAllOver_10 : fetch m_Judge_findUnmetAllOver 10 = some (.aload_n 0) := by decide +kernel
theorem F_Judge_findUnmetAllOver_11 : fetch m_Judge_findUnmetAllOver 11 = some (.getfield 50) := by decide +kernel
theorem F_Judge_findUnmetAllOver_14 : fetch m_Judge_findUnmetAllOver 14 = some (.iload_n 3) := by decide +kernel
theorem F_Judge_findUnmetAllOver_15 : fetch m_Judge_findUnmetAllOver 15 = some (.ishr) := by decide +kernel
theorem F_Judge_findUnmetAllOver_16 : fetch m_Judge_findUnmetAllOver 16 = some (.iconst 1) := by decide +kernel
theorem F_Judge_findUnmetAllOver_17 : fetch m_Judge_findUnmetAllOver 17 = some (.iand) := by decide +kernel
theorem F_Judge_findUnmetAllOver_18 : fetch m_Judge_findUnmetAllOver 18 = some (.ifCond .eq 26) := by decide +kernel
theorem F_Judge_findUnmetAllOver_21 : fetch m_Judge_findUnmetAllOver 21 = some (.aload_n 1) := by decide +kernel
theorem F_Judge_findUnmetAllOver_22 : fetch m_Judge_findUnmetAllOver 22 = some (.aload_n 2) := by decide +kernel
theorem F_Judge_findUnmetAllOver_23 : fetch m_Judge_findUnmetAllOver 23 = some (.iconst 2) := by decide +kernel
theorem F_Judge_findUnmetAllOver_24 : fetch m_Judge_findUnmetAllOver 24 = some (.iload_n 3) := by decide +kernel
theorem F_Judge_findUnmetAllOver_25 : fetch m_Judge_findUnmetAllOver 25 = some (.imul) := by decide +kernel
theorem F_Judge_findUnmetAllOver_26 : fetch m_Judge_findUnmetAllOver 26 = some (.invokestatic 112) := by decide +kernel
theorem F_Judge_findUnmetAllOver_29 : fetch m_Judge_findUnmetAllOver 29 = some (.aload_n 0) := by decide +kernel
theorem F_Judge_findUnmetAllOver_30 : fetch m_Judge_findUnmetAllOver 30 = some (.getfield 30) := by decide +kernel
theorem F_Judge_findUnmetAllOver_33 : fetch m_Judge_findUnmetAllOver 33 = some (.iconst 1) := by decide +kernel
theorem F_Judge_findUnmetAllOver_34 : fetch m_Judge_findUnmetAllOver 34 = some (.invokevirtual 129) := by decide +kernel
theorem F_Judge_findUnmetAllOver_37 : fetch m_Judge_findUnmetAllOver 37 = some (.ifCond .ne 7) := by decide +kernel
theorem F_Judge_findUnmetAllOver_40 : fetch m_Judge_findUnmetAllOver 40 = some (.iconst 2) := by decide +kernel
theorem F_Judge_findUnmetAllOver_41 : fetch m_Judge_findUnmetAllOver 41 = some (.iload_n 3) := by decide +kernel
theorem F_Judge_findUnmetAllOver_42 : fetch m_Judge_findUnmetAllOver 42 = some (.imul) := by decide +kernel
theorem F_Judge_findUnmetAllOver_43 : fetch m_Judge_findUnmetAllOver 43 = some (.ireturn) := by decide +kernel
theorem F_Judge_findUnmetAllOver_44 : fetch m_Judge_findUnmetAllOver 44 = some (.iinc 3 1) := by decide +kernel
theorem F_Judge_findUnmetAllOver_47 : fetch m_Judge_findUnmetAllOver 47 = some (.goto (-45)) := by decide +kernel
theorem F_Judge_findUnmetAllOver_50 : fetch m_Judge_findUnmetAllOver 50 = some (.iconst (-1)) := by decide +kernel
theorem F_Judge_findUnmetAllOver_51 : fetch m_Judge_findUnmetAllOver 51 = some (.ireturn) := by decide +kernel
theorem F_Action_init_0 : fetch m_Action_init 0 = some (.aload_n 0) := by decide +kernel
theorem F_Action_init_1 : fetch m_Action_init 1 = some (.invokespecial 3) := by decide +kernel
theorem F_Action_init_4 : fetch m_Action_init 4 = some (.aload_n 0) := by decide +kernel
theorem F_Action_init_5 : fetch m_Action_init 5 = some (.iconst 3) := by decide +kernel
theorem F_Action_init_6 : fetch m_Action_init 6 = some (.newarray .int) := by decide +kernel
theorem F_Action_init_8 : fetch m_Action_init 8 = some (.putfield 9) := by decide +kernel
theorem F_Action_init_11 : fetch m_Action_init 11 = some (.aload_n 0) := by decide +kernel
theorem F_Action_init_12 : fetch m_Action_init 12 = some (.iconst 3) := by decide +kernel
theorem F_Action_init_13 : fetch m_Action_init 13 = some (.newarray .int) := by decide +kernel
theorem F_Action_init_15 : fetch m_Action_init 15 = some (.putfield 15) := by decide +kernel
theorem F_Action_init_18 : fetch m_Action_init 18 = some (.aload_n 0) := by decide +kernel
theorem F_Action_init_19 : fetch m_Action_init 19 = some (.new 18) := by decide +kernel
theorem F_Action_init_22 : fetch m_Action_init 22 = some (.dup) := by decide +kernel
theorem F_Action_init_23 : fetch m_Action_init 23 = some (.bipush 8) := by decide +kernel
theorem F_Action_init_25 : fetch m_Action_init 25 = some (.invokespecial 20) := by decide +kernel
theorem F_Action_init_28 : fetch m_Action_init 28 = some (.putfield 23) := by decide +kernel
theorem F_Action_init_31 : fetch m_Action_init 31 = some (.aload_n 0) := by decide +kernel
theorem F_Action_init_32 : fetch m_Action_init 32 = some (.iconst 3) := by decide +kernel
theorem F_Action_init_33 : fetch m_Action_init 33 = some (.newarray .int) := by decide +kernel
theorem F_Action_init_35 : fetch m_Action_init 35 = some (.putfield 27) := by decide +kernel
theorem F_Action_init_38 : fetch m_Action_init 38 = some (.aload_n 0) := by decide +kernel
theorem F_Action_init_39 : fetch m_Action_init 39 = some (.iconst 3) := by decide +kernel
theorem F_Action_init_40 : fetch m_Action_init 40 = some (.newarray .int) := by decide +kernel
theorem F_Action_init_42 : fetch m_Action_init 42 = some (.putfield 30) := by decide +kernel
theorem F_Action_init_45 : fetch m_Action_init 45 = some (.aload_n 0) := by decide +kernel
theorem F_Action_init_46 : fetch m_Action_init 46 = some (.new 18) := by decide +kernel
theorem F_Action_init_49 : fetch m_Action_init 49 = some (.dup) := by decide +kernel
theorem F_Action_init_50 : fetch m_Action_init 50 = some (.bipush 6) := by decide +kernel
theorem F_Action_init_52 : fetch m_Action_init 52 = some (.invokespecial 20) := by decide +kernel
theorem F_Action_init_55 : fetch m_Action_init 55 = some (.putfield 33) := by decide +kernel
theorem F_Action_init_58 : fetch m_Action_init 58 = some (.aload_n 0) := by decide +kernel
theorem F_Action_init_59 : fetch m_Action_init 59 = some (.iconst 3) := by decide +kernel
theorem F_Action_init_60 : fetch m_Action_init 60 = some (.newarray .int) := by decide +kernel
theorem F_Action_init_62 : fetch m_Action_init 62 = some (.putfield 36) := by decide +kernel
theorem F_Action_init_65 : fetch m_Action_init 65 = some (.aload_n 0) := by decide +kernel
theorem F_Action_init_66 : fetch m_Action_init 66 = some (.iconst 3) := by decide +kernel
theorem F_Action_init_67 : fetch m_Action_init 67 = some (.newarray .int) := by decide +kernel
theorem F_Action_init_69 : fetch m_Action_init 69 = some (.putfield 39) := by decide +kernel
theorem F_Action_init_72 : fetch m_Action_init 72 = some (.aload_n 0) := by decide +kernel
theorem F_Action_init_73 : fetch m_Action_init 73 = some (.iconst 2) := by decide +kernel
theorem F_Action_init_74 : fetch m_Action_init 74 = some (.newarray .int) := by decide +kernel
theorem F_Action_init_76 : fetch m_Action_init 76 = some (.putfield 42) := by decide +kernel
theorem F_Action_init_79 : fetch m_Action_init 79 = some (.aload_n 0) := by decide +kernel
theorem F_Action_init_80 : fetch m_Action_init 80 = some (.new 45) := by decide +kernel
theorem F_Action_init_83 : fetch m_Action_init 83 = some (.dup) := by decide +kernel
theorem F_Action_init_84 : fetch m_Action_init 84 = some (.iconst 2) := by decide +kernel
theorem F_Action_init_85 : fetch m_Action_init 85 = some (.invokespecial 47) := by decide +kernel
theorem F_Action_init_88 : fetch m_Action_init 88 = some (.putfield 48) := by decide +kernel
theorem F_Action_init_91 : fetch m_Action_init 91 = some (.aload_n 0) := by decide +kernel
theorem F_Action_init_92 : fetch m_Action_init 92 = some (.getfield 42) := by decide +kernel
theorem F_Action_init_95 : fetch m_Action_init 95 = some (.bipush (-2)) := by decide +kernel
theorem F_Action_init_97 : fetch m_Action_init 97 = some (.invokestatic 52) := by decide +kernel
theorem F_Action_init_100 : fetch m_Action_init 100 = some (.return_) := by decide +kernel
theorem F_Action_needFact_0 : fetch m_Action_needFact 0 = some (.iload_n 3) := by decide +kernel
theorem F_Action_needFact_1 : fetch m_Action_needFact 1 = some (.ifCond .eq 10) := by decide +kernel
theorem F_Action_needFact_4 : fetch m_Action_needFact 4 = some (.aload_n 0) := by decide +kernel
theorem F_Action_needFact_5 : fetch m_Action_needFact 5 = some (.getfield 9) := by decide +kernel
theorem F_Action_needFact_8 : fetch m_Action_needFact 8 = some (.goto 7) := by decide +kernel
theorem F_Action_needFact_11 : fetch m_Action_needFact 11 = some (.aload_n 0) := by decide +kernel
theorem F_Action_needFact_12 : fetch m_Action_needFact 12 = some (.getfield 15) := by decide +kernel
theorem F_Action_needFact_15 : fetch m_Action_needFact 15 = some (.astore 4) := by decide +kernel
theorem F_Action_needFact_17 : fetch m_Action_needFact 17 = some (.aload 4) := by decide +kernel
theorem F_Action_needFact_19 : fetch m_Action_needFact 19 = some (.iload_n 1) := by decide +kernel
theorem F_Action_needFact_20 : fetch m_Action_needFact 20 = some (.dup2) := by decide +kernel
theorem F_Action_needFact_21 : fetch m_Action_needFact 21 = some (.iaload) := by decide +kernel
theorem F_Action_needFact_22 : fetch m_Action_needFact 22 = some (.iload_n 2) := by decide +kernel
theorem F_Action_needFact_23 : fetch m_Action_needFact 23 = some (.invokestatic 58) := by decide +kernel
theorem F_Action_needFact_26 : fetch m_Action_needFact 26 = some (.ior) := by decide +kernel
theorem F_Action_needFact_27 : fetch m_Action_needFact 27 = some (.iastore) := by decide +kernel
theorem F_Action_needFact_28 : fetch m_Action_needFact 28 = some (.aload_n 0) := by decide +kernel
theorem F_Action_needFact_29 : fetch m_Action_needFact 29 = some (.getfield 39) := by decide +kernel
theorem F_Action_needFact_32 : fetch m_Action_needFact 32 = some (.iload_n 1) := by decide +kernel
theorem F_Action_needFact_33 : fetch m_Action_needFact 33 = some (.dup2) := by decide +kernel
theorem F_Action_needFact_34 : fetch m_Action_needFact 34 = some (.iaload) := by decide +kernel
theorem F_Action_needFact_35 : fetch m_Action_needFact 35 = some (.iload_n 2) := by decide +kernel
theorem F_Action_needFact_36 : fetch m_Action_needFact 36 = some (.invokestatic 58) := by decide +kernel
theorem F_Action_needFact_39 : fetch m_Action_needFact 39 = some (.ior) := by decide +kernel
theorem F_Action_needFact_40 : fetch m_Action_needFact 40 = some (.iastore) := by decide +kernel
theorem F_Action_needFact_41 : fetch m_Action_needFact 41 = some (.aload_n 0) := by decide +kernel
theorem F_Action_needFact_42 : fetch m_Action_needFact 42 = some (.dup) := by decide +kernel
theorem F_Action_needFact_43 : fetch m_Action_needFact 43 = some (.getfield 62) := by decide +kernel
theorem F_Action_needFact_46 : fetch m_Action_needFact 46 = some (.iconst 1) := by decide +kernel
theorem F_Action_needFact_47 : fetch m_Action_needFact 47 = some (.iadd) := by decide +kernel
theorem F_Action_needFact_48 : fetch m_Action_needFact 48 = some (.putfield 62) := by decide +kernel
theorem F_Action_needFact_51 : fetch m_Action_needFact 51 = some (.return_) := by decide +kernel
theorem F_Action_needNumber_0 : fetch m_Action_needNumber 0 = some (.aload_n 0) := by decide +kernel
theorem F_Action_needNumber_1 : fetch m_Action_needNumber 1 = some (.getfield 23) := by decide +kernel
theorem F_Action_needNumber_4 : fetch m_Action_needNumber 4 = some (.iload_n 1) := by decide +kernel
theorem F_Action_needNumber_5 : fetch m_Action_needNumber 5 = some (.iload_n 2) := by decide +kernel
theorem F_Action_needNumber_6 : fetch m_Action_needNumber 6 = some (.iload_n 3) := by decide +kernel
theorem F_Action_needNumber_7 : fetch m_Action_needNumber 7 = some (.aload 4) := by decide +kernel
theorem F_Action_needNumber_9 : fetch m_Action_needNumber 9 = some (.invokevirtual 66) := by decide +kernel
theorem F_Action_needNumber_12 : fetch m_Action_needNumber 12 = some (.aload_n 0) := by decide +kernel
theorem F_Action_needNumber_13 : fetch m_Action_needNumber 13 = some (.getfield 39) := by decide +kernel
theorem F_Action_needNumber_16 : fetch m_Action_needNumber 16 = some (.iload_n 1) := by decide +kernel
theorem F_Action_needNumber_17 : fetch m_Action_needNumber 17 = some (.dup2) := by decide +kernel
theorem F_Action_needNumber_18 : fetch m_Action_needNumber 18 = some (.iaload) := by decide +kernel
theorem F_Action_needNumber_19 : fetch m_Action_needNumber 19 = some (.iload_n 2) := by decide +kernel
theorem F_Action_needNumber_20 : fetch m_Action_needNumber 20 = some (.invokestatic 70) := by decide +kernel
theorem F_Action_needNumber_23 : fetch m_Action_needNumber 23 = some (.ior) := by decide +kernel
theorem F_Action_needNumber_24 : fetch m_Action_needNumber 24 = some (.iastore) := by decide +kernel
theorem F_Action_needNumber_25 : fetch m_Action_needNumber 25 = some (.aload_n 0) := by decide +kernel
theorem F_Action_needNumber_26 : fetch m_Action_needNumber 26 = some (.dup) := by decide +kernel
theorem F_Action_needNumber_27 : fetch m_Action_needNumber 27 = some (.getfield 62) := by decide +kernel
theorem F_Action_needNumber_30 : fetch m_Action_needNumber 30 = some (.iconst 1) := by decide +kernel
theorem F_Action_needNumber_31 : fetch m_Action_needNumber 31 = some (.iadd) := by decide +kernel
theorem F_Action_needNumber_32 : fetch m_Action_needNumber 32 = some (.putfield 62) := by decide +kernel
theorem F_Action_needNumber_35 : fetch m_Action_needNumber 35 = some (.return_) := by decide +kernel
theorem F_Action_changeFact_0 : fetch m_Action_changeFact 0 = some (.iload_n 3) := by decide +kernel
theorem F_Action_changeFact_1 : fetch m_Action_changeFact 1 = some (.ifCond .eq 10) := by decide +kernel
theorem F_Action_changeFact_4 : fetch m_Action_changeFact 4 = some (.aload_n 0) := by decide +kernel
theorem F_Action_changeFact_5 : fetch m_Action_changeFact 5 = some (.getfield 27) := by decide +kernel
theorem F_Action_changeFact_8 : fetch m_Action_changeFact 8 = some (.goto 7) := by decide +kernel
theorem F_Action_changeFact_11 : fetch m_Action_changeFact 11 = some (.aload_n 0) := by decide +kernel
theorem F_Action_changeFact_12 : fetch m_Action_changeFact 12 = some (.getfield 30) := by decide +kernel
theorem F_Action_changeFact_15 : fetch m_Action_changeFact 15 = some (.astore 4) := by decide +kernel
theorem F_Action_changeFact_17 : fetch m_Action_changeFact 17 = some (.aload 4) := by decide +kernel
theorem F_Action_changeFact_19 : fetch m_Action_changeFact 19 = some (.iload_n 1) := by decide +kernel
theorem F_Action_changeFact_20 : fetch m_Action_changeFact 20 = some (.dup2) := by decide +kernel
theorem F_Action_changeFact_21 : fetch m_Action_changeFact 21 = some (.iaload) := by decide +kernel
theorem F_Action_changeFact_22 : fetch m_Action_changeFact 22 = some (.iload_n 2) := by decide +kernel
theorem F_Action_changeFact_23 : fetch m_Action_changeFact 23 = some (.invokestatic 58) := by decide +kernel
theorem F_Action_changeFact_26 : fetch m_Action_changeFact 26 = some (.ior) := by decide +kernel
theorem F_Action_changeFact_27 : fetch m_Action_changeFact 27 = some (.iastore) := by decide +kernel
theorem F_Action_changeFact_28 : fetch m_Action_changeFact 28 = some (.aload_n 0) := by decide +kernel
theorem F_Action_changeFact_29 : fetch m_Action_changeFact 29 = some (.getfield 36) := by decide +kernel
theorem F_Action_changeFact_32 : fetch m_Action_changeFact 32 = some (.iload_n 1) := by decide +kernel
theorem F_Action_changeFact_33 : fetch m_Action_changeFact 33 = some (.dup2) := by decide +kernel
theorem F_Action_changeFact_34 : fetch m_Action_changeFact 34 = some (.iaload) := by decide +kernel
theorem F_Action_changeFact_35 : fetch m_Action_changeFact 35 = some (.iload_n 2) := by decide +kernel
theorem F_Action_changeFact_36 : fetch m_Action_changeFact 36 = some (.invokestatic 58) := by decide +kernel
theorem F_Action_changeFact_39 : fetch m_Action_changeFact 39 = some (.ior) := by decide +kernel
theorem F_Action_changeFact_40 : fetch m_Action_changeFact 40 = some (.iastore) := by decide +kernel
theorem F_Action_changeFact_41 : fetch m_Action_changeFact 41 = some (.aload_n 0) := by decide +kernel
theorem F_Action_changeFact_42 : fetch m_Action_changeFact 42 = some (.dup) := by decide +kernel
theorem F_Action_changeFact_43 : fetch m_Action_changeFact 43 = some (.getfield 73) := by decide +kernel
theorem F_Action_changeFact_46 : fetch m_Action_changeFact 46 = some (.iconst 1) := by decide +kernel
theorem F_Action_changeFact_47 : fetch m_Action_changeFact 47 = some (.iadd) := by decide +kernel
theorem F_Action_changeFact_48 : fetch m_Action_changeFact 48 = some (.putfield 73) := by decide +kernel
theorem F_Action_changeFact_51 : fetch m_Action_changeFact 51 = some (.return_) := by decide +kernel
theorem F_Action_changeNumber_0 : fetch m_Action_changeNumber 0 = some (.aload_n 0) := by decide +kernel
theorem F_Action_changeNumber_1 : fetch m_Action_changeNumber 1 = some (.getfield 33) := by decide +kernel
theorem F_Action_changeNumber_4 : fetch m_Action_changeNumber 4 = some (.iload_n 1) := by decide +kernel
theorem F_Action_changeNumber_5 : fetch m_Action_changeNumber 5 = some (.iload_n 2) := by decide +kernel
theorem F_Action_changeNumber_6 : fetch m_Action_changeNumber 6 = some (.iload_n 3) := by decide +kernel
theorem F_Action_changeNumber_7 : fetch m_Action_changeNumber 7 = some (.aload 4) := by decide +kernel
theorem F_Action_changeNumber_9 : fetch m_Action_changeNumber 9 = some (.invokevirtual 66) := by decide +kernel
theorem F_Action_changeNumber_12 : fetch m_Action_changeNumber 12 = some (.aload_n 0) := by decide +kernel
theorem F_Action_changeNumber_13 : fetch m_Action_changeNumber 13 = some (.getfield 36) := by decide +kernel
theorem F_Action_changeNumber_16 : fetch m_Action_changeNumber 16 = some (.iload_n 1) := by decide +kernel
theorem F_Action_changeNumber_17 : fetch m_Action_changeNumber 17 = some (.dup2) := by decide +kernel
theorem F_Action_changeNumber_18 : fetch m_Action_changeNumber 18 = some (.iaload) := by decide +kernel
theorem F_Action_changeNumber_19 : fetch m_Action_changeNumber 19 = some (.iload_n 2) := by decide +kernel
theorem F_Action_changeNumber_20 : fetch m_Action_changeNumber 20 = some (.invokestatic 70) := by decide +kernel
theorem F_Action_changeNumber_23 : fetch m_Action_changeNumber 23 = some (.ior) := by decide +kernel
theorem F_Action_changeNumber_24 : fetch m_Action_changeNumber 24 = some (.iastore) := by decide +kernel
theorem F_Action_changeNumber_25 : fetch m_Action_changeNumber 25 = some (.iload_n 3) := by decide +kernel
theorem F_Action_changeNumber_26 : fetch m_Action_changeNumber 26 = some (.iconst 1) := by decide +kernel
theorem F_Action_changeNumber_27 : fetch m_Action_changeNumber 27 = some (.if_icmp .eq 21) := by decide +kernel
theorem F_Action_changeNumber_30 : fetch m_Action_changeNumber 30 = some (.iload_n 3) := by decide +kernel
theorem F_Action_changeNumber_31 : fetch m_Action_changeNumber 31 = some (.iconst 2) := by decide +kernel
theorem F_Action_changeNumber_32 : fetch m_Action_changeNumber 32 = some (.if_icmp .eq 16) := by decide +kernel
theorem F_Action_changeNumber_35 : fetch m_Action_changeNumber 35 = some (.aload_n 0) := by decide +kernel
theorem F_Action_changeNumber_36 : fetch m_Action_changeNumber 36 = some (.getfield 39) := by decide +kernel
theorem F_Action_changeNumber_39 : fetch m_Action_changeNumber 39 = some (.iload_n 1) := by decide +kernel
theorem F_Action_changeNumber_40 : fetch m_Action_changeNumber 40 = some (.dup2) := by decide +kernel
theorem F_Action_changeNumber_41 : fetch m_Action_changeNumber 41 = some (.iaload) := by decide +kernel
theorem F_Action_changeNumber_42 : fetch m_Action_changeNumber 42 = some (.iload_n 2) := by decide +kernel
theorem F_Action_changeNumber_43 : fetch m_Action_changeNumber 43 = some (.invokestatic 70) := by decide +kernel
theorem F_Action_changeNumber_46 : fetch m_Action_changeNumber 46 = some (.ior) := by decide +kernel
theorem F_Action_changeNumber_47 : fetch m_Action_changeNumber 47 = some (.iastore) := by decide +kernel
theorem F_Action_changeNumber_48 : fetch m_Action_changeNumber 48 = some (.aload_n 0) := by decide +kernel
theorem F_Action_changeNumber_49 : fetch m_Action_changeNumber 49 = some (.dup) := by decide +kernel
theorem F_Action_changeNumber_50 : fetch m_Action_changeNumber 50 = some (.getfield 73) := by decide +kernel
theorem F_Action_changeNumber_53 : fetch m_Action_changeNumber 53 = some (.iconst 1) := by decide +kernel
theorem F_Action_changeNumber_54 : fetch m_Action_changeNumber 54 = some (.iadd) := by decide +kernel
theorem F_Action_changeNumber_55 : fetch m_Action_changeNumber 55 = some (.putfield 73) := by decide +kernel
theorem F_Action_changeNumber_58 : fetch m_Action_changeNumber 58 = some (.return_) := by decide +kernel
theorem F_Action_boundDuration_0 : fetch m_Action_boundDuration 0 = some (.aload_n 0) := by decide +kernel
theorem F_Action_boundDuration_1 : fetch m_Action_boundDuration 1 = some (.getfield 42) := by decide +kernel
theorem F_Action_boundDuration_4 : fetch m_Action_boundDuration 4 = some (.iload_n 1) := by decide +kernel
theorem F_Action_boundDuration_5 : fetch m_Action_boundDuration 5 = some (.iload_n 2) := by decide +kernel
theorem F_Action_boundDuration_6 : fetch m_Action_boundDuration 6 = some (.iastore) := by decide +kernel
theorem F_Action_boundDuration_7 : fetch m_Action_boundDuration 7 = some (.aload_n 0) := by decide +kernel
theorem F_Action_boundDuration_8 : fetch m_Action_boundDuration 8 = some (.getfield 48) := by decide +kernel
theorem F_Action_boundDuration_11 : fetch m_Action_boundDuration 11 = some (.iload_n 1) := by decide +kernel
theorem F_Action_boundDuration_12 : fetch m_Action_boundDuration 12 = some (.aload_n 3) := by decide +kernel
theorem F_Action_boundDuration_13 : fetch m_Action_boundDuration 13 = some (.iconst 0) := by decide +kernel
theorem F_Action_boundDuration_14 : fetch m_Action_boundDuration 14 = some (.invokevirtual 76) := by decide +kernel
theorem F_Action_boundDuration_17 : fetch m_Action_boundDuration 17 = some (.aload_n 0) := by decide +kernel
theorem F_Action_boundDuration_18 : fetch m_Action_boundDuration 18 = some (.iconst 0) := by decide +kernel
theorem F_Action_boundDuration_19 : fetch m_Action_boundDuration 19 = some (.putfield 80) := by decide +kernel
theorem F_Action_boundDuration_22 : fetch m_Action_boundDuration 22 = some (.aload_n 0) := by decide +kernel
theorem F_Action_boundDuration_23 : fetch m_Action_boundDuration 23 = some (.getfield 42) := by decide +kernel
theorem F_Action_boundDuration_26 : fetch m_Action_boundDuration 26 = some (.astore 4) := by decide +kernel
theorem F_Action_boundDuration_28 : fetch m_Action_boundDuration 28 = some (.aload 4) := by decide +kernel
theorem F_Action_boundDuration_30 : fetch m_Action_boundDuration 30 = some (.arraylength) := by decide +kernel
theorem F_Action_boundDuration_31 : fetch m_Action_boundDuration 31 = some (.istore 5) := by decide +kernel
theorem F_Action_boundDuration_33 : fetch m_Action_boundDuration 33 = some (.iconst 0) := by decide +kernel
theorem F_Action_boundDuration_34 : fetch m_Action_boundDuration 34 = some (.istore 6) := by decide +kernel
theorem F_Action_boundDuration_36 : fetch m_Action_boundDuration 36 = some (.iload 6) := by decide +kernel
theorem F_Action_boundDuration_38 : fetch m_Action_boundDuration 38 = some (.iload 5) := by decide +kernel
theorem F_Action_boundDuration_40 : fetch m_Action_boundDuration 40 = some (.if_icmp .ge 39) := by decide +kernel
theorem F_Action_boundDuration_43 : fetch m_Action_boundDuration 43 = some (.aload 4) := by decide +kernel
theorem F_Action_boundDuration_45 : fetch m_Action_boundDuration 45 = some (.iload 6) := by decide +kernel
theorem F_Action_boundDuration_47 : fetch m_Action_boundDuration 47 = some (.iaload) := by decide +kernel
theorem F_Action_boundDuration_48 : fetch m_Action_boundDuration 48 = some (.istore 7) := by decide +kernel
theorem F_Action_boundDuration_50 : fetch m_Action_boundDuration 50 = some (.aload_n 0) := by decide +kernel
theorem F_Action_boundDuration_51 : fetch m_Action_boundDuration 51 = some (.dup) := by decide +kernel
theorem F_Action_boundDuration_52 : fetch m_Action_boundDuration 52 = some (.getfield 80) := by decide +kernel
theorem F_Action_boundDuration_55 : fetch m_Action_boundDuration 55 = some (.iload 7) := by decide +kernel
theorem F_Action_boundDuration_57 : fetch m_Action_boundDuration 57 = some (.ifCond .lt 11) := by decide +kernel
theorem F_Action_boundDuration_60 : fetch m_Action_boundDuration 60 = some (.iload 7) := by decide +kernel
theorem F_Action_boundDuration_62 : fetch m_Action_boundDuration 62 = some (.invokestatic 70) := by decide +kernel
theorem F_Action_boundDuration_65 : fetch m_Action_boundDuration 65 = some (.goto 4) := by decide +kernel
theorem F_Action_boundDuration_68 : fetch m_Action_boundDuration 68 = some (.iconst 0) := by decide +kernel
theorem F_Action_boundDuration_69 : fetch m_Action_boundDuration 69 = some (.ior) := by decide +kernel
theorem F_Action_boundDuration_70 : fetch m_Action_boundDuration 70 = some (.putfield 80) := by decide +kernel
theorem F_Action_boundDuration_73 : fetch m_Action_boundDuration 73 = some (.iinc 6 1) := by decide +kernel
theorem F_Action_boundDuration_76 : fetch m_Action_boundDuration 76 = some (.goto (-40)) := by decide +kernel
theorem F_Action_boundDuration_79 : fetch m_Action_boundDuration 79 = some (.return_) := by decide +kernel
theorem F_Arranger_findFault_0 : fetch m_Arranger_findFault 0 = some (.aload_n 0) := by decide +kernel
theorem F_Arranger_findFault_1 : fetch m_Arranger_findFault 1 = some (.aload_n 1) := by decide +kernel
theorem F_Arranger_findFault_2 : fetch m_Arranger_findFault 2 = some (.getfield 74) := by decide +kernel
theorem F_Arranger_findFault_5 : fetch m_Arranger_findFault 5 = some (.invokevirtual 80) := by decide +kernel
theorem F_Arranger_findFault_8 : fetch m_Arranger_findFault 8 = some (.iconst 0) := by decide +kernel
theorem F_Arranger_findFault_9 : fetch m_Arranger_findFault 9 = some (.istore_n 3) := by decide +kernel
theorem F_Arranger_findFault_10 : fetch m_Arranger_findFault 10 = some (.iload_n 3) := by decide +kernel
theorem F_Arranger_findFault_11 : fetch m_Arranger_findFault 11 = some (.aload_n 2) := by decide +kernel
theorem F_Arranger_findFault_12 : fetch m_Arranger_findFault 12 = some (.getfield 83) := by decide +kernel
theorem F_Arranger_findFault_15 : fetch m_Arranger_findFault 15 = some (.if_icmp .ge 43) := by decide +kernel
theorem F_Arranger_findFault_18 : fetch m_Arranger_findFault 18 = some (.aload_n 0) := by decide +kernel
theorem F_Arranger_findFault_19 : fetch m_Arranger_findFault 19 = some (.aload_n 1) := by decide +kernel
theorem F_Arranger_findFault_20 : fetch m_Arranger_findFault 20 = some (.aload_n 2) := by decide +kernel
theorem F_Arranger_findFault_21 : fetch m_Arranger_findFault 21 = some (.getfield 86) := by decide +kernel
theorem F_Arranger_findFault_24 : fetch m_Arranger_findFault 24 = some (.iload_n 3) := by decide +kernel
theorem F_Arranger_findFault_25 : fetch m_Arranger_findFault 25 = some (.iaload) := by decide +kernel
theorem F_Arranger_findFault_26 : fetch m_Arranger_findFault 26 = some (.aload_n 2) := by decide +kernel
theorem F_Arranger_findFault_27 : fetch m_Arranger_findFault 27 = some (.getfield 87) := by decide +kernel
theorem F_Arranger_findFault_30 : fetch m_Arranger_findFault 30 = some (.aload_n 2) := by decide +kernel
theorem F_Arranger_findFault_31 : fetch m_Arranger_findFault 31 = some (.getfield 86) := by decide +kernel
theorem F_Arranger_findFault_34 : fetch m_Arranger_findFault 34 = some (.iload_n 3) := by decide +kernel
theorem F_Arranger_findFault_35 : fetch m_Arranger_findFault 35 = some (.iaload) := by decide +kernel
theorem F_Arranger_findFault_36 : fetch m_Arranger_findFault 36 = some (.iconst 2) := by decide +kernel
theorem F_Arranger_findFault_37 : fetch m_Arranger_findFault 37 = some (.idiv) := by decide +kernel
theorem F_Arranger_findFault_38 : fetch m_Arranger_findFault 38 = some (.iaload) := by decide +kernel
theorem F_Arranger_findFault_39 : fetch m_Arranger_findFault 39 = some (.invokevirtual 88) := by decide +kernel
theorem F_Arranger_findFault_42 : fetch m_Arranger_findFault 42 = some (.istore 4) := by decide +kernel
theorem F_Arranger_findFault_44 : fetch m_Arranger_findFault 44 = some (.iload 4) := by decide +kernel
theorem F_Arranger_findFault_46 : fetch m_Arranger_findFault 46 = some (.ifCond .eq 6) := by decide +kernel
theorem F_Arranger_findFault_49 : fetch m_Arranger_findFault 49 = some (.iload 4) := by decide +kernel
theorem F_Arranger_findFault_51 : fetch m_Arranger_findFault 51 = some (.ireturn) := by decide +kernel
theorem F_Arranger_findFault_52 : fetch m_Arranger_findFault 52 = some (.iinc 3 1) := by decide +kernel
theorem F_Arranger_findFault_55 : fetch m_Arranger_findFault 55 = some (.goto (-45)) := by decide +kernel
theorem F_Arranger_findFault_58 : fetch m_Arranger_findFault 58 = some (.aload_n 0) := by decide +kernel
theorem F_Arranger_findFault_59 : fetch m_Arranger_findFault 59 = some (.aload_n 1) := by decide +kernel
theorem F_Arranger_findFault_60 : fetch m_Arranger_findFault 60 = some (.invokevirtual 92) := by decide +kernel
theorem F_Arranger_findFault_63 : fetch m_Arranger_findFault 63 = some (.ireturn) := by decide +kernel
theorem F_Arranger_beginAt_0 : fetch m_Arranger_beginAt 0 = some (.aload_n 0) := by decide +kernel
theorem F_Arranger_beginAt_1 : fetch m_Arranger_beginAt 1 = some (.getfield 11) := by decide +kernel
theorem F_Arranger_beginAt_4 : fetch m_Arranger_beginAt 4 = some (.iconst 0) := by decide +kernel
theorem F_Arranger_beginAt_5 : fetch m_Arranger_beginAt 5 = some (.aaload) := by decide +kernel
theorem F_Arranger_beginAt_6 : fetch m_Arranger_beginAt 6 = some (.aload_n 1) := by decide +kernel
theorem F_Arranger_beginAt_7 : fetch m_Arranger_beginAt 7 = some (.invokevirtual 60) := by decide +kernel
theorem F_Arranger_beginAt_10 : fetch m_Arranger_beginAt 10 = some (.aload_n 0) := by decide +kernel
theorem F_Arranger_beginAt_11 : fetch m_Arranger_beginAt 11 = some (.iconst 0) := by decide +kernel
theorem F_Arranger_beginAt_12 : fetch m_Arranger_beginAt 12 = some (.putfield 64) := by decide +kernel
theorem F_Arranger_beginAt_15 : fetch m_Arranger_beginAt 15 = some (.aload_n 0) := by decide +kernel
theorem F_Arranger_beginAt_16 : fetch m_Arranger_beginAt 16 = some (.iconst 0) := by decide +kernel
theorem F_Arranger_beginAt_17 : fetch m_Arranger_beginAt 17 = some (.putfield 68) := by decide +kernel
theorem F_Arranger_beginAt_20 : fetch m_Arranger_beginAt 20 = some (.aload_n 0) := by decide +kernel
theorem F_Arranger_beginAt_21 : fetch m_Arranger_beginAt 21 = some (.iconst 0) := by decide +kernel
theorem F_Arranger_beginAt_22 : fetch m_Arranger_beginAt 22 = some (.putfield 71) := by decide +kernel
theorem F_Arranger_beginAt_25 : fetch m_Arranger_beginAt 25 = some (.return_) := by decide +kernel
theorem F_Arranger_addPoint_0 : fetch m_Arranger_addPoint 0 = some (.iload_n 2) := by decide +kernel
theorem F_Arranger_addPoint_1 : fetch m_Arranger_addPoint 1 = some (.iconst 2) := by decide +kernel
theorem F_Arranger_addPoint_2 : fetch m_Arranger_addPoint 2 = some (.idiv) := by decide +kernel
theorem F_Arranger_addPoint_3 : fetch m_Arranger_addPoint 3 = some (.istore 4) := by decide +kernel
theorem F_Arranger_addPoint_5 : fetch m_Arranger_addPoint 5 = some (.iload_n 2) := by decide +kernel
theorem F_Arranger_addPoint_6 : fetch m_Arranger_addPoint 6 = some (.invokestatic 96) := by decide +kernel
theorem F_Arranger_addPoint_9 : fetch m_Arranger_addPoint 9 = some (.istore 5) := by decide +kernel
theorem F_Arranger_addPoint_11 : fetch m_Arranger_addPoint 11 = some (.aload_n 1) := by decide +kernel
theorem F_Arranger_addPoint_12 : fetch m_Arranger_addPoint 12 = some (.getfield 100) := by decide +kernel
theorem F_Arranger_addPoint_15 : fetch m_Arranger_addPoint 15 = some (.iload_n 3) := by decide +kernel
theorem F_Arranger_addPoint_16 : fetch m_Arranger_addPoint 16 = some (.invokevirtual 104) := by decide +kernel
theorem F_Arranger_addPoint_19 : fetch m_Arranger_addPoint 19 = some (.checkcast 110) := by decide +kernel
theorem F_Arranger_addPoint_22 : fetch m_Arranger_addPoint 22 = some (.astore 6) := by decide +kernel
theorem F_Arranger_addPoint_24 : fetch m_Arranger_addPoint 24 = some (.aload_n 0) := by decide +kernel
theorem F_Arranger_addPoint_25 : fetch m_Arranger_addPoint 25 = some (.getfield 11) := by decide +kernel
theorem F_Arranger_addPoint_28 : fetch m_Arranger_addPoint 28 = some (.aload_n 0) := by decide +kernel
theorem F_Arranger_addPoint_29 : fetch m_Arranger_addPoint 29 = some (.getfield 64) := by decide +kernel
theorem F_Arranger_addPoint_32 : fetch m_Arranger_addPoint 32 = some (.aaload) := by decide +kernel
theorem F_Arranger_addPoint_33 : fetch m_Arranger_addPoint 33 = some (.astore 7) := by decide +kernel
theorem F_Arranger_addPoint_35 : fetch m_Arranger_addPoint 35 = some (.aload_n 0) := by decide +kernel
theorem F_Arranger_addPoint_36 : fetch m_Arranger_addPoint 36 = some (.getfield 11) := by decide +kernel
theorem F_Arranger_addPoint_39 : fetch m_Arranger_addPoint 39 = some (.aload_n 0) := by decide +kernel
theorem F_Arranger_addPoint_40 : fetch m_Arranger_addPoint 40 = some (.getfield 64) := by decide +kernel
theorem F_Arranger_addPoint_43 : fetch m_Arranger_addPoint 43 = some (.iconst 1) := by decide +kernel
theorem F_Arranger_addPoint_44 : fetch m_Arranger_addPoint 44 = some (.iadd) := by decide +kernel
theorem F_Arranger_addPoint_45 : fetch m_Arranger_addPoint 45 = some (.aaload) := by decide +kernel
theorem F_Arranger_addPoint_46 : fetch m_Arranger_addPoint 46 = some (.astore 8) := by decide +kernel
theorem F_Arranger_addPoint_48 : fetch m_Arranger_addPoint 48 = some (.aload_n 0) := by decide +kernel
theorem F_Arranger_addPoint_49 : fetch m_Arranger_addPoint 49 = some (.iload_n 2) := by decide +kernel
theorem F_Arranger_addPoint_50 : fetch m_Arranger_addPoint 50 = some (.putfield 112) := by decide +kernel
theorem F_Arranger_addPoint_53 : fetch m_Arranger_addPoint 53 = some (.aload 6) := by decide +kernel
theorem F_Arranger_addPoint_55 : fetch m_Arranger_addPoint 55 = some (.aload 7) := by decide +kernel
theorem F_Arranger_addPoint_57 : fetch m_Arranger_addPoint 57 = some (.iload 5) := by decide +kernel
theorem F_Arranger_addPoint_59 : fetch m_Arranger_addPoint 59 = some (.invokevirtual 115) := by decide +kernel
theorem F_Arranger_addPoint_62 : fetch m_Arranger_addPoint 62 = some (.ifCond .ne 5) := by decide +kernel
theorem F_Arranger_addPoint_65 : fetch m_Arranger_addPoint 65 = some (.iconst 2) := by decide +kernel
theorem F_Arranger_addPoint_66 : fetch m_Arranger_addPoint 66 = some (.ireturn) := by decide +kernel
theorem F_Arranger_addPoint_67 : fetch m_Arranger_addPoint 67 = some (.aload 8) := by decide +kernel
theorem F_Arranger_addPoint_69 : fetch m_Arranger_addPoint 69 = some (.aload 7) := by decide +kernel
theorem F_Arranger_addPoint_71 : fetch m_Arranger_addPoint 71 = some (.invokevirtual 60) := by decide +kernel
theorem F_Arranger_addPoint_74 : fetch m_Arranger_addPoint 74 = some (.aload 6) := by decide +kernel
theorem F_Arranger_addPoint_76 : fetch m_Arranger_addPoint 76 = some (.aload 8) := by decide +kernel
theorem F_Arranger_addPoint_78 : fetch m_Arranger_addPoint 78 = some (.iload 5) := by decide +kernel
theorem F_Arranger_addPoint_80 : fetch m_Arranger_addPoint 80 = some (.invokevirtual 119) := by decide +kernel
theorem F_Arranger_addPoint_83 : fetch m_Arranger_addPoint 83 = some (.ifCond .ne 5) := by decide +kernel
theorem F_Arranger_addPoint_86 : fetch m_Arranger_addPoint 86 = some (.iconst 4) := by decide +kernel
theorem F_Arranger_addPoint_87 : fetch m_Arranger_addPoint 87 = some (.ireturn) := by decide +kernel
theorem F_Arranger_addPoint_88 : fetch m_Arranger_addPoint 88 = some (.aload_n 0) := by decide +kernel
theorem F_Arranger_addPoint_89 : fetch m_Arranger_addPoint 89 = some (.getfield 28) := by decide +kernel
theorem F_Arranger_addPoint_92 : fetch m_Arranger_addPoint 92 = some (.iload 4) := by decide +kernel
theorem F_Arranger_addPoint_94 : fetch m_Arranger_addPoint 94 = some (.iload_n 3) := by decide +kernel
theorem F_Arranger_addPoint_95 : fetch m_Arranger_addPoint 95 = some (.iastore) := by decide +kernel
theorem F_Arranger_addPoint_96 : fetch m_Arranger_addPoint 96 = some (.aload_n 0) := by decide +kernel
theorem F_Arranger_addPoint_97 : fetch m_Arranger_addPoint 97 = some (.getfield 71) := by decide +kernel
theorem F_Arranger_addPoint_100 : fetch m_Arranger_addPoint 100 = some (.iconst 1) := by decide +kernel
theorem F_Arranger_addPoint_101 : fetch m_Arranger_addPoint 101 = some (.iload 4) := by decide +kernel
theorem F_Arranger_addPoint_103 : fetch m_Arranger_addPoint 103 = some (.ishl) := by decide +kernel
theorem F_Arranger_addPoint_104 : fetch m_Arranger_addPoint 104 = some (.ixor) := by decide +kernel
theorem F_Arranger_addPoint_105 : fetch m_Arranger_addPoint 105 = some (.istore 9) := by decide +kernel
theorem F_Arranger_addPoint_107 : fetch m_Arranger_addPoint 107 = some (.aload_n 0) := by decide +kernel
theorem F_Arranger_addPoint_108 : fetch m_Arranger_addPoint 108 = some (.aload_n 0) := by decide +kernel
theorem F_Arranger_addPoint_109 : fetch m_Arranger_addPoint 109 = some (.aload_n 1) := by decide +kernel
theorem F_Arranger_addPoint_110 : fetch m_Arranger_addPoint 110 = some (.aload 8) := by decide +kernel
theorem F_Arranger_addPoint_112 : fetch m_Arranger_addPoint 112 = some (.iload 9) := by decide +kernel
theorem F_Arranger_addPoint_114 : fetch m_Arranger_addPoint 114 = some (.invokevirtual 122) := by decide +kernel
theorem F_Arranger_addPoint_117 : fetch m_Arranger_addPoint 117 = some (.putfield 112) := by decide +kernel
theorem F_Arranger_addPoint_120 : fetch m_Arranger_addPoint 120 = some (.aload_n 0) := by decide +kernel
theorem F_Arranger_addPoint_121 : fetch m_Arranger_addPoint 121 = some (.getfield 112) := by decide +kernel
theorem F_Arranger_addPoint_124 : fetch m_Arranger_addPoint 124 = some (.iconst (-1)) := by decide +kernel
theorem F_Arranger_addPoint_125 : fetch m_Arranger_addPoint 125 = some (.if_icmp .eq 5) := by decide +kernel
theorem F_Arranger_addPoint_128 : fetch m_Arranger_addPoint 128 = some (.iconst 5) := by decide +kernel
theorem F_Arranger_addPoint_129 : fetch m_Arranger_addPoint 129 = some (.ireturn) := by decide +kernel
theorem F_Arranger_addPoint_130 : fetch m_Arranger_addPoint 130 = some (.iload 5) := by decide +kernel
theorem F_Arranger_addPoint_132 : fetch m_Arranger_addPoint 132 = some (.ifCond .ne 33) := by decide +kernel
theorem F_Arranger_addPoint_135 : fetch m_Arranger_addPoint 135 = some (.aload_n 0) := by decide +kernel
theorem F_Arranger_addPoint_136 : fetch m_Arranger_addPoint 136 = some (.getfield 31) := by decide +kernel
theorem F_Arranger_addPoint_139 : fetch m_Arranger_addPoint 139 = some (.iload 4) := by decide +kernel
theorem F_Arranger_addPoint_141 : fetch m_Arranger_addPoint 141 = some (.aload_n 0) := by decide +kernel
theorem F_Arranger_addPoint_142 : fetch m_Arranger_addPoint 142 = some (.getfield 64) := by decide +kernel
theorem F_Arranger_addPoint_145 : fetch m_Arranger_addPoint 145 = some (.iastore) := by decide +kernel
theorem F_Arranger_addPoint_146 : fetch m_Arranger_addPoint 146 = some (.aload_n 0) := by decide +kernel
theorem F_Arranger_addPoint_147 : fetch m_Arranger_addPoint 147 = some (.aload_n 1) := by decide +kernel
theorem F_Arranger_addPoint_148 : fetch m_Arranger_addPoint 148 = some (.aload 6) := by decide +kernel
theorem F_Arranger_addPoint_150 : fetch m_Arranger_addPoint 150 = some (.iload 4) := by decide +kernel
theorem F_Arranger_addPoint_152 : fetch m_Arranger_addPoint 152 = some (.invokevirtual 126) := by decide +kernel
theorem F_Arranger_addPoint_155 : fetch m_Arranger_addPoint 155 = some (.aload_n 0) := by decide +kernel
theorem F_Arranger_addPoint_156 : fetch m_Arranger_addPoint 156 = some (.dup) := by decide +kernel
theorem F_Arranger_addPoint_157 : fetch m_Arranger_addPoint 157 = some (.getfield 68) := by decide +kernel
theorem F_Arranger_addPoint_160 : fetch m_Arranger_addPoint 160 = some (.iconst 1) := by decide +kernel
theorem F_Arranger_addPoint_161 : fetch m_Arranger_addPoint 161 = some (.iadd) := by decide +kernel
theorem F_Arranger_addPoint_162 : fetch m_Arranger_addPoint 162 = some (.putfield 68) := by decide +kernel
theorem F_Arranger_addPoint_165 : fetch m_Arranger_addPoint 165 = some (.aload_n 0) := by decide +kernel
theorem F_Arranger_addPoint_166 : fetch m_Arranger_addPoint 166 = some (.getfield 21) := by decide +kernel
theorem F_Arranger_addPoint_169 : fetch m_Arranger_addPoint 169 = some (.aload_n 0) := by decide +kernel
theorem F_Arranger_addPoint_170 : fetch m_Arranger_addPoint 170 = some (.getfield 64) := by decide +kernel
theorem F_Arranger_addPoint_173 : fetch m_Arranger_addPoint 173 = some (.aload_n 0) := by decide +kernel
theorem F_Arranger_addPoint_174 : fetch m_Arranger_addPoint 174 = some (.aload_n 1) := by decide +kernel
theorem F_Arranger_addPoint_175 : fetch m_Arranger_addPoint 175 = some (.aload 6) := by decide +kernel
theorem F_Arranger_addPoint_177 : fetch m_Arranger_addPoint 177 = some (.iload 5) := by decide +kernel
theorem F_Arranger_addPoint_179 : fetch m_Arranger_addPoint 179 = some (.invokevirtual 130) := by decide +kernel
theorem F_Arranger_addPoint_182 : fetch m_Arranger_addPoint 182 = some (.iastore) := by decide +kernel
theorem F_Arranger_addPoint_183 : fetch m_Arranger_addPoint 183 = some (.aload_n 0) := by decide +kernel
theorem F_Arranger_addPoint_184 : fetch m_Arranger_addPoint 184 = some (.getfield 17) := by decide +kernel
theorem F_Arranger_addPoint_187 : fetch m_Arranger_addPoint 187 = some (.aload_n 0) := by decide +kernel
theorem F_Arranger_addPoint_188 : fetch m_Arranger_addPoint 188 = some (.getfield 64) := by decide +kernel
theorem F_Arranger_addPoint_191 : fetch m_Arranger_addPoint 191 = some (.iload_n 2) := by decide +kernel
theorem F_Arranger_addPoint_192 : fetch m_Arranger_addPoint 192 = some (.iastore) := by decide +kernel
theorem F_Arranger_addPoint_193 : fetch m_Arranger_addPoint 193 = some (.aload_n 0) := by decide +kernel
theorem F_Arranger_addPoint_194 : fetch m_Arranger_addPoint 194 = some (.dup) := by decide +kernel
theorem F_Arranger_addPoint_195 : fetch m_Arranger_addPoint 195 = some (.getfield 64) := by decide +kernel
theorem F_Arranger_addPoint_198 : fetch m_Arranger_addPoint 198 = some (.iconst 1) := by decide +kernel
theorem F_Arranger_addPoint_199 : fetch m_Arranger_addPoint 199 = some (.iadd) := by decide +kernel
theorem F_Arranger_addPoint_200 : fetch m_Arranger_addPoint 200 = some (.putfield 64) := by decide +kernel
theorem F_Arranger_addPoint_203 : fetch m_Arranger_addPoint 203 = some (.aload_n 0) := by decide +kernel
theorem F_Arranger_addPoint_204 : fetch m_Arranger_addPoint 204 = some (.iload 9) := by decide +kernel
theorem F_Arranger_addPoint_206 : fetch m_Arranger_addPoint 206 = some (.putfield 71) := by decide +kernel
theorem F_Arranger_addPoint_209 : fetch m_Arranger_addPoint 209 = some (.iconst 0) := by decide +kernel
theorem F_Arranger_addPoint_210 : fetch m_Arranger_addPoint 210 = some (.ireturn) := by decide +kernel
theorem F_Arranger_findUnmetAllOver_0 : fetch m_Arranger_findUnmetAllOver 0 = some (.iconst 0) := by decide +kernel
theorem F_Arranger_findUnmetAllOver_1 : fetch m_Arranger_findUnmetAllOver 1 = some (.istore 4) := by decide +kernel
theorem F_Arranger_findUnmetAllOver_3 : fetch m_Arranger_findUnmetAllOver 3 = some (.iload 4) := by decide +kernel
theorem F_Arranger_findUnmetAllOver_5 : fetch m_Arranger_findUnmetAllOver 5 = some (.bipush 12) := by decide +kernel
theorem F_Arranger_findUnmetAllOver_7 : fetch m_Arranger_findUnmetAllOver 7 = some (.if_icmp .ge 55) := by decide +kernel
theorem F_Arranger_findUnmetAllOver_10 : fetch m_Arranger_findUnmetAllOver 10 = some (.iload_n 3) := by decide +kernel
theorem F_Arranger_findUnmetAllOver_11 : fetch m_Arranger_findUnmetAllOver 11 = some (.iload 4) := by decide +kernel
theorem F_Arranger_findUnmetAllOver_13 : fetch m_Arranger_findUnmetAllOver 13 = some (.ishr) := by decide +kernel
theorem F_Arranger_findUnmetAllOver_14 : fetch m_Arranger_findUnmetAllOver 14 = some (.ifCond .eq 48) := by decide +kernel
theorem F_Arranger_findUnmetAllOver_17 : fetch m_Arranger_findUnmetAllOver 17 = some (.iload_n 3) := by decide +kernel
theorem F_Arranger_findUnmetAllOver_18 : fetch m_Arranger_findUnmetAllOver 18 = some (.iload 4) := by decide +kernel
theorem F_Arranger_findUnmetAllOver_20 : fetch m_Arranger_findUnmetAllOver 20 = some (.ishr) := by decide +kernel
theorem F_Arranger_findUnmetAllOver_21 : fetch m_Arranger_findUnmetAllOver 21 = some (.iconst 1) := by decide +kernel
theorem F_Arranger_findUnmetAllOver_22 : fetch m_Arranger_findUnmetAllOver 22 = some (.iand) := by decide +kernel
theorem F_Arranger_findUnmetAllOver_23 : fetch m_Arranger_findUnmetAllOver 23 = some (.ifCond .eq 33) := by decide +kernel
theorem F_Arranger_findUnmetAllOver_26 : fetch m_Arranger_findUnmetAllOver 26 = some (.aload_n 1) := by decide +kernel
theorem F_Arranger_findUnmetAllOver_27 : fetch m_Arranger_findUnmetAllOver 27 = some (.getfield 100) := by decide +kernel
theorem F_Arranger_findUnmetAllOver_30 : fetch m_Arranger_findUnmetAllOver 30 = some (.aload_n 0) := by decide +kernel
theorem F_Arranger_findUnmetAllOver_31 : fetch m_Arranger_findUnmetAllOver 31 = some (.getfield 28) := by decide +kernel
theorem F_Arranger_findUnmetAllOver_34 : fetch m_Arranger_findUnmetAllOver 34 = some (.iload 4) := by decide +kernel
theorem F_Arranger_findUnmetAllOver_36 : fetch m_Arranger_findUnmetAllOver 36 = some (.iaload) := by decide +kernel
theorem F_Arranger_findUnmetAllOver_37 : fetch m_Arranger_findUnmetAllOver 37 = some (.invokevirtual 104) := by decide +kernel
theorem F_Arranger_findUnmetAllOver_40 : fetch m_Arranger_findUnmetAllOver 40 = some (.checkcast 110) := by decide +kernel
theorem F_Arranger_findUnmetAllOver_43 : fetch m_Arranger_findUnmetAllOver 43 = some (.aload_n 2) := by decide +kernel
theorem F_Arranger_findUnmetAllOver_44 : fetch m_Arranger_findUnmetAllOver 44 = some (.iconst 1) := by decide +kernel
theorem F_Arranger_findUnmetAllOver_45 : fetch m_Arranger_findUnmetAllOver 45 = some (.invokevirtual 115) := by decide +kernel
theorem F_Arranger_findUnmetAllOver_48 : fetch m_Arranger_findUnmetAllOver 48 = some (.ifCond .ne 8) := by decide +kernel
theorem F_Arranger_findUnmetAllOver_51 : fetch m_Arranger_findUnmetAllOver 51 = some (.iconst 2) := by decide +kernel
theorem F_Arranger_findUnmetAllOver_52 : fetch m_Arranger_findUnmetAllOver 52 = some (.iload 4) := by decide +kernel
theorem F_Arranger_findUnmetAllOver_54 : fetch m_Arranger_findUnmetAllOver 54 = some (.imul) := by decide +kernel
theorem F_Arranger_findUnmetAllOver_55 : fetch m_Arranger_findUnmetAllOver 55 = some (.ireturn) := by decide +kernel
theorem F_Arranger_findUnmetAllOver_56 : fetch m_Arranger_findUnmetAllOver 56 = some (.iinc 4 1) := by decide +kernel
theorem F_Arranger_findUnmetAllOver_59 : fetch m_Arranger_findUnmetAllOver 59 = some (.goto (-56)) := by decide +kernel
theorem F_Arranger_findUnmetAllOver_62 : fetch m_Arranger_findUnmetAllOver 62 = some (.iconst (-1)) := by decide +kernel
theorem F_Arranger_findUnmetAllOver_63 : fetch m_Arranger_findUnmetAllOver 63 = some (.ireturn) := by decide +kernel
theorem F_Arranger_writeBounds_0 : fetch m_Arranger_writeBounds 0 = some (.aload_n 0) := by decide +kernel
theorem F_Arranger_writeBounds_1 : fetch m_Arranger_writeBounds 1 = some (.getfield 11) := by decide +kernel
theorem F_Arranger_writeBounds_4 : fetch m_Arranger_writeBounds 4 = some (.aload_n 0) := by decide +kernel
theorem F_Arranger_writeBounds_5 : fetch m_Arranger_writeBounds 5 = some (.getfield 64) := by decide +kernel
theorem F_Arranger_writeBounds_8 : fetch m_Arranger_writeBounds 8 = some (.aaload) := by decide +kernel
theorem F_Arranger_writeBounds_9 : fetch m_Arranger_writeBounds 9 = some (.astore 4) := by decide +kernel
theorem F_Arranger_writeBounds_11 : fetch m_Arranger_writeBounds 11 = some (.aload_n 2) := by decide +kernel
theorem F_Arranger_writeBounds_12 : fetch m_Arranger_writeBounds 12 = some (.iconst 0) := by decide +kernel
theorem F_Arranger_writeBounds_13 : fetch m_Arranger_writeBounds 13 = some (.aload 4) := by decide +kernel
theorem F_Arranger_writeBounds_15 : fetch m_Arranger_writeBounds 15 = some (.aload_n 0) := by decide +kernel
theorem F_Arranger_writeBounds_16 : fetch m_Arranger_writeBounds 16 = some (.getfield 39) := by decide +kernel
theorem F_Arranger_writeBounds_19 : fetch m_Arranger_writeBounds 19 = some (.iload_n 3) := by decide +kernel
theorem F_Arranger_writeBounds_20 : fetch m_Arranger_writeBounds 20 = some (.invokevirtual 172) := by decide +kernel
theorem F_Arranger_writeBounds_23 : fetch m_Arranger_writeBounds 23 = some (.istore 5) := by decide +kernel
theorem F_Arranger_writeBounds_25 : fetch m_Arranger_writeBounds 25 = some (.iload 5) := by decide +kernel
theorem F_Arranger_writeBounds_27 : fetch m_Arranger_writeBounds 27 = some (.ifCond .eq 19) := by decide +kernel
theorem F_Arranger_writeBounds_30 : fetch m_Arranger_writeBounds 30 = some (.aload_n 0) := by decide +kernel
theorem F_Arranger_writeBounds_31 : fetch m_Arranger_writeBounds 31 = some (.getfield 39) := by decide +kernel
theorem F_Arranger_writeBounds_34 : fetch m_Arranger_writeBounds 34 = some (.iload_n 3) := by decide +kernel
theorem F_Arranger_writeBounds_35 : fetch m_Arranger_writeBounds 35 = some (.aload_n 1) := by decide +kernel
theorem F_Arranger_writeBounds_36 : fetch m_Arranger_writeBounds 36 = some (.getfield 176) := by decide +kernel
theorem F_Arranger_writeBounds_39 : fetch m_Arranger_writeBounds 39 = some (.iconst 0) := by decide +kernel
theorem F_Arranger_writeBounds_40 : fetch m_Arranger_writeBounds 40 = some (.invokevirtual 179) := by decide +kernel
theorem F_Arranger_writeBounds_43 : fetch m_Arranger_writeBounds 43 = some (.ifCond .ge 16) := by decide +kernel
theorem F_Arranger_writeBounds_46 : fetch m_Arranger_writeBounds 46 = some (.aload_n 0) := by decide +kernel
theorem F_Arranger_writeBounds_47 : fetch m_Arranger_writeBounds 47 = some (.getfield 39) := by decide +kernel
theorem F_Arranger_writeBounds_50 : fetch m_Arranger_writeBounds 50 = some (.iload_n 3) := by decide +kernel
theorem F_Arranger_writeBounds_51 : fetch m_Arranger_writeBounds 51 = some (.aload_n 1) := by decide +kernel
theorem F_Arranger_writeBounds_52 : fetch m_Arranger_writeBounds 52 = some (.getfield 176) := by decide +kernel
theorem F_Arranger_writeBounds_55 : fetch m_Arranger_writeBounds 55 = some (.iconst 0) := by decide +kernel
theorem F_Arranger_writeBounds_56 : fetch m_Arranger_writeBounds 56 = some (.invokevirtual 183) := by decide +kernel
theorem F_Arranger_writeBounds_59 : fetch m_Arranger_writeBounds 59 = some (.aload_n 0) := by decide +kernel
theorem F_Arranger_writeBounds_60 : fetch m_Arranger_writeBounds 60 = some (.getfield 46) := by decide +kernel
theorem F_Arranger_writeBounds_63 : fetch m_Arranger_writeBounds 63 = some (.iload_n 3) := by decide +kernel
theorem F_Arranger_writeBounds_64 : fetch m_Arranger_writeBounds 64 = some (.aload_n 2) := by decide +kernel
theorem F_Arranger_writeBounds_65 : fetch m_Arranger_writeBounds 65 = some (.iconst 1) := by decide +kernel
theorem F_Arranger_writeBounds_66 : fetch m_Arranger_writeBounds 66 = some (.aload 4) := by decide +kernel
theorem F_Arranger_writeBounds_68 : fetch m_Arranger_writeBounds 68 = some (.aload_n 0) := by decide +kernel
theorem F_Arranger_writeBounds_69 : fetch m_Arranger_writeBounds 69 = some (.getfield 43) := by decide +kernel
theorem F_Arranger_writeBounds_72 : fetch m_Arranger_writeBounds 72 = some (.iload_n 3) := by decide +kernel
theorem F_Arranger_writeBounds_73 : fetch m_Arranger_writeBounds 73 = some (.invokevirtual 172) := by decide +kernel
theorem F_Arranger_writeBounds_76 : fetch m_Arranger_writeBounds 76 = some (.bastore) := by decide +kernel
theorem F_Arranger_writeBounds_77 : fetch m_Arranger_writeBounds 77 = some (.return_) := by decide +kernel
theorem F_Arranger_findLatestInterfering_0 : fetch m_Arranger_findLatestInterfering 0 = some (.aload_n 0) := by decide +kernel
theorem F_Arranger_findLatestInterfering_1 : fetch m_Arranger_findLatestInterfering 1 = some (.getfield 64) := by decide +kernel
theorem F_Arranger_findLatestInterfering_4 : fetch m_Arranger_findLatestInterfering 4 = some (.iconst 1) := by decide +kernel
theorem F_Arranger_findLatestInterfering_5 : fetch m_Arranger_findLatestInterfering 5 = some (.isub) := by decide +kernel
theorem F_Arranger_findLatestInterfering_6 : fetch m_Arranger_findLatestInterfering 6 = some (.istore 4) := by decide +kernel
theorem F_Arranger_findLatestInterfering_8 : fetch m_Arranger_findLatestInterfering 8 = some (.iload 4) := by decide +kernel
theorem F_Arranger_findLatestInterfering_10 : fetch m_Arranger_findLatestInterfering 10 = some (.ifCond .lt 58) := by decide +kernel
theorem F_Arranger_findLatestInterfering_13 : fetch m_Arranger_findLatestInterfering 13 = some (.aload_n 1) := by decide +kernel
theorem F_Arranger_findLatestInterfering_14 : fetch m_Arranger_findLatestInterfering 14 = some (.getfield 100) := by decide +kernel
theorem F_Arranger_findLatestInterfering_17 : fetch m_Arranger_findLatestInterfering 17 = some (.aload_n 0) := by decide +kernel
theorem F_Arranger_findLatestInterfering_18 : fetch m_Arranger_findLatestInterfering 18 = some (.getfield 28) := by decide +kernel
theorem F_Arranger_findLatestInterfering_21 : fetch m_Arranger_findLatestInterfering 21 = some (.aload_n 0) := by decide +kernel
theorem F_Arranger_findLatestInterfering_22 : fetch m_Arranger_findLatestInterfering 22 = some (.getfield 17) := by decide +kernel
theorem F_Arranger_findLatestInterfering_25 : fetch m_Arranger_findLatestInterfering 25 = some (.iload 4) := by decide +kernel
theorem F_Arranger_findLatestInterfering_27 : fetch m_Arranger_findLatestInterfering 27 = some (.iaload) := by decide +kernel
theorem F_Arranger_findLatestInterfering_28 : fetch m_Arranger_findLatestInterfering 28 = some (.iconst 2) := by decide +kernel
theorem F_Arranger_findLatestInterfering_29 : fetch m_Arranger_findLatestInterfering 29 = some (.idiv) := by decide +kernel
theorem F_Arranger_findLatestInterfering_30 : fetch m_Arranger_findLatestInterfering 30 = some (.iaload) := by decide +kernel
theorem F_Arranger_findLatestInterfering_31 : fetch m_Arranger_findLatestInterfering 31 = some (.invokevirtual 104) := by decide +kernel
theorem F_Arranger_findLatestInterfering_34 : fetch m_Arranger_findLatestInterfering 34 = some (.checkcast 110) := by decide +kernel
theorem F_Arranger_findLatestInterfering_37 : fetch m_Arranger_findLatestInterfering 37 = some (.astore 5) := by decide +kernel
theorem F_Arranger_findLatestInterfering_39 : fetch m_Arranger_findLatestInterfering 39 = some (.aload_n 2) := by decide +kernel
theorem F_Arranger_findLatestInterfering_40 : fetch m_Arranger_findLatestInterfering 40 = some (.iload_n 3) := by decide +kernel
theorem F_Arranger_findLatestInterfering_41 : fetch m_Arranger_findLatestInterfering 41 = some (.aload 5) := by decide +kernel
theorem F_Arranger_findLatestInterfering_43 : fetch m_Arranger_findLatestInterfering 43 = some (.aload_n 0) := by decide +kernel
theorem F_Arranger_findLatestInterfering_44 : fetch m_Arranger_findLatestInterfering 44 = some (.getfield 17) := by decide +kernel
theorem F_Arranger_findLatestInterfering_47 : fetch m_Arranger_findLatestInterfering 47 = some (.iload 4) := by decide +kernel
theorem F_Arranger_findLatestInterfering_49 : fetch m_Arranger_findLatestInterfering 49 = some (.iaload) := by decide +kernel
theorem F_Arranger_findLatestInterfering_50 : fetch m_Arranger_findLatestInterfering 50 = some (.invokestatic 96) := by decide +kernel
theorem F_Arranger_findLatestInterfering_53 : fetch m_Arranger_findLatestInterfering 53 = some (.invokevirtual 187) := by decide +kernel
theorem F_Arranger_findLatestInterfering_56 : fetch m_Arranger_findLatestInterfering 56 = some (.ifCond .eq 6) := by decide +kernel
theorem F_Arranger_findLatestInterfering_59 : fetch m_Arranger_findLatestInterfering 59 = some (.iload 4) := by decide +kernel
theorem F_Arranger_findLatestInterfering_61 : fetch m_Arranger_findLatestInterfering 61 = some (.ireturn) := by decide +kernel
theorem F_Arranger_findLatestInterfering_62 : fetch m_Arranger_findLatestInterfering 62 = some (.iinc 4 (-1)) := by decide +kernel
theorem F_Arranger_findLatestInterfering_65 : fetch m_Arranger_findLatestInterfering 65 = some (.goto (-57)) := by decide +kernel
theorem F_Arranger_findLatestInterfering_68 : fetch m_Arranger_findLatestInterfering 68 = some (.iconst (-1)) := by decide +kernel
theorem F_Arranger_findLatestInterfering_69 : fetch m_Arranger_findLatestInterfering 69 = some (.ireturn) := by decide +kernel
theorem F_Arranger_findLateFault_0 : fetch m_Arranger_findLateFault 0 = some (.aload_n 0) := by decide +kernel
theorem F_Arranger_findLateFault_1 : fetch m_Arranger_findLateFault 1 = some (.iconst (-1)) := by decide +kernel
theorem F_Arranger_findLateFault_2 : fetch m_Arranger_findLateFault 2 = some (.putfield 112) := by decide +kernel
theorem F_Arranger_findLateFault_5 : fetch m_Arranger_findLateFault 5 = some (.aload_n 1) := by decide +kernel
theorem F_Arranger_findLateFault_6 : fetch m_Arranger_findLateFault 6 = some (.aload_n 0) := by decide +kernel
theorem F_Arranger_findLateFault_7 : fetch m_Arranger_findLateFault 7 = some (.getfield 11) := by decide +kernel
theorem F_Arranger_findLateFault_10 : fetch m_Arranger_findLateFault 10 = some (.aload_n 0) := by decide +kernel
theorem F_Arranger_findLateFault_11 : fetch m_Arranger_findLateFault 11 = some (.getfield 64) := by decide +kernel
theorem F_Arranger_findLateFault_14 : fetch m_Arranger_findLateFault 14 = some (.aaload) := by decide +kernel
theorem F_Arranger_findLateFault_15 : fetch m_Arranger_findLateFault 15 = some (.invokevirtual 138) := by decide +kernel
theorem F_Arranger_findLateFault_18 : fetch m_Arranger_findLateFault 18 = some (.ifCond .ne 6) := by decide +kernel
theorem F_Arranger_findLateFault_21 : fetch m_Arranger_findLateFault 21 = some (.bipush 6) := by decide +kernel
theorem F_Arranger_findLateFault_23 : fetch m_Arranger_findLateFault 23 = some (.ireturn) := by decide +kernel
theorem F_Arranger_findLateFault_24 : fetch m_Arranger_findLateFault 24 = some (.aload_n 0) := by decide +kernel
theorem F_Arranger_findLateFault_25 : fetch m_Arranger_findLateFault 25 = some (.aload_n 1) := by decide +kernel
theorem F_Arranger_findLateFault_26 : fetch m_Arranger_findLateFault 26 = some (.invokevirtual 142) := by decide +kernel
theorem F_Arranger_findLateFault_29 : fetch m_Arranger_findLateFault 29 = some (.ifCond .ne 6) := by decide +kernel
theorem F_Arranger_findLateFault_32 : fetch m_Arranger_findLateFault 32 = some (.bipush 8) := by decide +kernel
theorem F_Arranger_findLateFault_34 : fetch m_Arranger_findLateFault 34 = some (.ireturn) := by decide +kernel
theorem F_Arranger_findLateFault_35 : fetch m_Arranger_findLateFault 35 = some (.aload_n 0) := by decide +kernel
theorem F_Arranger_findLateFault_36 : fetch m_Arranger_findLateFault 36 = some (.aload_n 1) := by decide +kernel
theorem F_Arranger_findLateFault_37 : fetch m_Arranger_findLateFault 37 = some (.invokevirtual 146) := by decide +kernel
theorem F_Arranger_findLateFault_40 : fetch m_Arranger_findLateFault 40 = some (.ifCond .eq 7) := by decide +kernel
theorem F_Arranger_findLateFault_43 : fetch m_Arranger_findLateFault 43 = some (.iconst 0) := by decide +kernel
theorem F_Arranger_findLateFault_44 : fetch m_Arranger_findLateFault 44 = some (.goto 5) := by decide +kernel
theorem F_Arranger_findLateFault_47 : fetch m_Arranger_findLateFault 47 = some (.bipush 7) := by decide +kernel
theorem F_Arranger_findLateFault_49 : fetch m_Arranger_findLateFault 49 = some (.ireturn) := by decide +kernel
theorem F_Arranger_findUnit_0 : fetch m_Arranger_findUnit 0 = some (.aload_n 0) := by decide +kernel
theorem F_Arranger_findUnit_1 : fetch m_Arranger_findUnit 1 = some (.lconst 1) := by decide +kernel
theorem F_Arranger_findUnit_2 : fetch m_Arranger_findUnit 2 = some (.putfield 161) := by decide +kernel
theorem F_Arranger_findUnit_5 : fetch m_Arranger_findUnit 5 = some (.aload_n 0) := by decide +kernel
theorem F_Arranger_findUnit_6 : fetch m_Arranger_findUnit 6 = some (.aload_n 1) := by decide +kernel
theorem F_Arranger_findUnit_7 : fetch m_Arranger_findUnit 7 = some (.getfield 176) := by decide +kernel
theorem F_Arranger_findUnit_10 : fetch m_Arranger_findUnit 10 = some (.iconst 0) := by decide +kernel
theorem F_Arranger_findUnit_11 : fetch m_Arranger_findUnit 11 = some (.invokevirtual 191) := by decide +kernel
theorem F_Arranger_findUnit_14 : fetch m_Arranger_findUnit 14 = some (.istore_n 2) := by decide +kernel
theorem F_Arranger_findUnit_15 : fetch m_Arranger_findUnit 15 = some (.iconst 0) := by decide +kernel
theorem F_Arranger_findUnit_16 : fetch m_Arranger_findUnit 16 = some (.istore_n 3) := by decide +kernel
theorem F_Arranger_findUnit_17 : fetch m_Arranger_findUnit 17 = some (.iload_n 3) := by decide +kernel
theorem F_Arranger_findUnit_18 : fetch m_Arranger_findUnit 18 = some (.aload_n 0) := by decide +kernel
theorem F_Arranger_findUnit_19 : fetch m_Arranger_findUnit 19 = some (.getfield 68) := by decide +kernel
theorem F_Arranger_findUnit_22 : fetch m_Arranger_findUnit 22 = some (.if_icmp .ge 52) := by decide +kernel
theorem F_Arranger_findUnit_25 : fetch m_Arranger_findUnit 25 = some (.iload_n 2) := by decide +kernel
theorem F_Arranger_findUnit_26 : fetch m_Arranger_findUnit 26 = some (.ifCond .eq 48) := by decide +kernel
theorem F_Arranger_findUnit_29 : fetch m_Arranger_findUnit 29 = some (.aload_n 0) := by decide +kernel
theorem F_Arranger_findUnit_30 : fetch m_Arranger_findUnit 30 = some (.aload_n 0) := by decide +kernel
theorem F_Arranger_findUnit_31 : fetch m_Arranger_findUnit 31 = some (.getfield 39) := by decide +kernel
theorem F_Arranger_findUnit_34 : fetch m_Arranger_findUnit 34 = some (.iload_n 3) := by decide +kernel
theorem F_Arranger_findUnit_35 : fetch m_Arranger_findUnit 35 = some (.invokevirtual 191) := by decide +kernel
theorem F_Arranger_findUnit_38 : fetch m_Arranger_findUnit 38 = some (.ifCond .eq 28) := by decide +kernel
theorem F_Arranger_findUnit_41 : fetch m_Arranger_findUnit 41 = some (.aload_n 0) := by decide +kernel
theorem F_Arranger_findUnit_42 : fetch m_Arranger_findUnit 42 = some (.getfield 46) := by decide +kernel
theorem F_Arranger_findUnit_45 : fetch m_Arranger_findUnit 45 = some (.iload_n 3) := by decide +kernel
theorem F_Arranger_findUnit_46 : fetch m_Arranger_findUnit 46 = some (.baload) := by decide +kernel
theorem F_Arranger_findUnit_47 : fetch m_Arranger_findUnit 47 = some (.ifCond .eq 15) := by decide +kernel
theorem F_Arranger_findUnit_50 : fetch m_Arranger_findUnit 50 = some (.aload_n 0) := by decide +kernel
theorem F_Arranger_findUnit_51 : fetch m_Arranger_findUnit 51 = some (.aload_n 0) := by decide +kernel
theorem F_Arranger_findUnit_52 : fetch m_Arranger_findUnit 52 = some (.getfield 43) := by decide +kernel
theorem F_Arranger_findUnit_55 : fetch m_Arranger_findUnit 55 = some (.iload_n 3) := by decide +kernel
theorem F_Arranger_findUnit_56 : fetch m_Arranger_findUnit 56 = some (.invokevirtual 191) := by decide +kernel
theorem F_Arranger_findUnit_59 : fetch m_Arranger_findUnit 59 = some (.ifCond .eq 7) := by decide +kernel
theorem F_Arranger_findUnit_62 : fetch m_Arranger_findUnit 62 = some (.iconst 1) := by decide +kernel
theorem F_Arranger_findUnit_63 : fetch m_Arranger_findUnit 63 = some (.goto 4) := by decide +kernel
theorem F_Arranger_findUnit_66 : fetch m_Arranger_findUnit 66 = some (.iconst 0) := by decide +kernel
theorem F_Arranger_findUnit_67 : fetch m_Arranger_findUnit 67 = some (.istore_n 2) := by decide +kernel
theorem F_Arranger_findUnit_68 : fetch m_Arranger_findUnit 68 = some (.iinc 3 1) := by decide +kernel
theorem F_Arranger_findUnit_71 : fetch m_Arranger_findUnit 71 = some (.goto (-54)) := by decide +kernel
theorem F_Arranger_findUnit_74 : fetch m_Arranger_findUnit 74 = some (.iload_n 2) := by decide +kernel
theorem F_Arranger_findUnit_75 : fetch m_Arranger_findUnit 75 = some (.ireturn) := by decide +kernel
theorem F_Arranger_refineUnit_0 : fetch m_Arranger_refineUnit 0 = some (.aload_n 0) := by decide +kernel
theorem F_Arranger_refineUnit_1 : fetch m_Arranger_refineUnit 1 = some (.getfield 56) := by decide +kernel
theorem F_Arranger_refineUnit_4 : fetch m_Arranger_refineUnit 4 = some (.iconst 0) := by decide +kernel
theorem F_Arranger_refineUnit_5 : fetch m_Arranger_refineUnit 5 = some (.aload_n 0) := by decide +kernel
theorem F_Arranger_refineUnit_6 : fetch m_Arranger_refineUnit 6 = some (.getfield 161) := by decide +kernel
theorem F_Arranger_refineUnit_9 : fetch m_Arranger_refineUnit 9 = some (.aload_n 1) := by decide +kernel
theorem F_Arranger_refineUnit_10 : fetch m_Arranger_refineUnit 10 = some (.getfield 195) := by decide +kernel
theorem F_Arranger_refineUnit_13 : fetch m_Arranger_refineUnit 13 = some (.iload_n 2) := by decide +kernel
theorem F_Arranger_refineUnit_14 : fetch m_Arranger_refineUnit 14 = some (.laload) := by decide +kernel
theorem F_Arranger_refineUnit_15 : fetch m_Arranger_refineUnit 15 = some (.invokevirtual 165) := by decide +kernel
theorem F_Arranger_refineUnit_18 : fetch m_Arranger_refineUnit 18 = some (.aload_n 0) := by decide +kernel
theorem F_Arranger_refineUnit_19 : fetch m_Arranger_refineUnit 19 = some (.aload_n 0) := by decide +kernel
theorem F_Arranger_refineUnit_20 : fetch m_Arranger_refineUnit 20 = some (.getfield 56) := by decide +kernel
theorem F_Arranger_refineUnit_23 : fetch m_Arranger_refineUnit 23 = some (.getfield 198) := by decide +kernel
theorem F_Arranger_refineUnit_26 : fetch m_Arranger_refineUnit 26 = some (.iconst 0) := by decide +kernel
theorem F_Arranger_refineUnit_27 : fetch m_Arranger_refineUnit 27 = some (.laload) := by decide +kernel
theorem F_Arranger_refineUnit_28 : fetch m_Arranger_refineUnit 28 = some (.aload_n 1) := by decide +kernel
theorem F_Arranger_refineUnit_29 : fetch m_Arranger_refineUnit 29 = some (.getfield 195) := by decide +kernel
theorem F_Arranger_refineUnit_32 : fetch m_Arranger_refineUnit 32 = some (.iload_n 2) := by decide +kernel
theorem F_Arranger_refineUnit_33 : fetch m_Arranger_refineUnit 33 = some (.laload) := by decide +kernel
theorem F_Arranger_refineUnit_34 : fetch m_Arranger_refineUnit 34 = some (.lmul) := by decide +kernel
theorem F_Arranger_refineUnit_35 : fetch m_Arranger_refineUnit 35 = some (.putfield 161) := by decide +kernel
theorem F_Arranger_refineUnit_38 : fetch m_Arranger_refineUnit 38 = some (.aload_n 0) := by decide +kernel
theorem F_Arranger_refineUnit_39 : fetch m_Arranger_refineUnit 39 = some (.getfield 161) := by decide +kernel
theorem F_Arranger_refineUnit_42 : fetch m_Arranger_refineUnit 42 = some (.ldc2_w 201) := by decide +kernel
theorem F_Arranger_refineUnit_45 : fetch m_Arranger_refineUnit 45 = some (.lcmp) := by decide +kernel
theorem F_Arranger_refineUnit_46 : fetch m_Arranger_refineUnit 46 = some (.ifCond .gt 18) := by decide +kernel
theorem F_Arranger_refineUnit_49 : fetch m_Arranger_refineUnit 49 = some (.aload_n 1) := by decide +kernel
theorem F_Arranger_refineUnit_50 : fetch m_Arranger_refineUnit 50 = some (.iload_n 2) := by decide +kernel
theorem F_Arranger_refineUnit_51 : fetch m_Arranger_refineUnit 51 = some (.ldc2_w 203) := by decide +kernel
theorem F_Arranger_refineUnit_54 : fetch m_Arranger_refineUnit 54 = some (.invokevirtual 205) := by decide +kernel
theorem F_Arranger_refineUnit_57 : fetch m_Arranger_refineUnit 57 = some (.ifCond .ne 7) := by decide +kernel
theorem F_Arranger_refineUnit_60 : fetch m_Arranger_refineUnit 60 = some (.iconst 1) := by decide +kernel
theorem F_Arranger_refineUnit_61 : fetch m_Arranger_refineUnit 61 = some (.goto 4) := by decide +kernel
theorem F_Arranger_refineUnit_64 : fetch m_Arranger_refineUnit 64 = some (.iconst 0) := by decide +kernel
theorem F_Arranger_refineUnit_65 : fetch m_Arranger_refineUnit 65 = some (.ireturn) := by decide +kernel
theorem F_Arranger_findTimes_0 : fetch m_Arranger_findTimes 0 = some (.iconst 0) := by decide +kernel
theorem F_Arranger_findTimes_1 : fetch m_Arranger_findTimes 1 = some (.istore_n 2) := by decide +kernel
theorem F_Arranger_findTimes_2 : fetch m_Arranger_findTimes 2 = some (.iload_n 2) := by decide +kernel
theorem F_Arranger_findTimes_3 : fetch m_Arranger_findTimes 3 = some (.aload_n 0) := by decide +kernel
theorem F_Arranger_findTimes_4 : fetch m_Arranger_findTimes 4 = some (.getfield 68) := by decide +kernel
theorem F_Arranger_findTimes_7 : fetch m_Arranger_findTimes 7 = some (.if_icmp .ge 79) := by decide +kernel
theorem F_Arranger_findTimes_10 : fetch m_Arranger_findTimes 10 = some (.aload_n 0) := by decide +kernel
theorem F_Arranger_findTimes_11 : fetch m_Arranger_findTimes 11 = some (.getfield 46) := by decide +kernel
theorem F_Arranger_findTimes_14 : fetch m_Arranger_findTimes 14 = some (.iload_n 2) := by decide +kernel
theorem F_Arranger_findTimes_15 : fetch m_Arranger_findTimes 15 = some (.baload) := by decide +kernel
theorem F_Arranger_findTimes_16 : fetch m_Arranger_findTimes 16 = some (.ifCond .eq 21) := by decide +kernel
theorem F_Arranger_findTimes_19 : fetch m_Arranger_findTimes 19 = some (.aload_n 0) := by decide +kernel
theorem F_Arranger_findTimes_20 : fetch m_Arranger_findTimes 20 = some (.getfield 43) := by decide +kernel
theorem F_Arranger_findTimes_23 : fetch m_Arranger_findTimes 23 = some (.iload_n 2) := by decide +kernel
theorem F_Arranger_findTimes_24 : fetch m_Arranger_findTimes 24 = some (.aload_n 0) := by decide +kernel
theorem F_Arranger_findTimes_25 : fetch m_Arranger_findTimes 25 = some (.getfield 39) := by decide +kernel
theorem F_Arranger_findTimes_28 : fetch m_Arranger_findTimes 28 = some (.iload_n 2) := by decide +kernel
theorem F_Arranger_findTimes_29 : fetch m_Arranger_findTimes 29 = some (.invokevirtual 179) := by decide +kernel
theorem F_Arranger_findTimes_32 : fetch m_Arranger_findTimes 32 = some (.ifCond .ge 5) := by decide +kernel
theorem F_Arranger_findTimes_35 : fetch m_Arranger_findTimes 35 = some (.iconst 0) := by decide +kernel
theorem F_Arranger_findTimes_36 : fetch m_Arranger_findTimes 36 = some (.ireturn) := by decide +kernel
theorem F_Arranger_findTimes_37 : fetch m_Arranger_findTimes 37 = some (.aload_n 0) := by decide +kernel
theorem F_Arranger_findTimes_38 : fetch m_Arranger_findTimes 38 = some (.getfield 50) := by decide +kernel
theorem F_Arranger_findTimes_41 : fetch m_Arranger_findTimes 41 = some (.iload_n 2) := by decide +kernel
theorem F_Arranger_findTimes_42 : fetch m_Arranger_findTimes 42 = some (.aload_n 0) := by decide +kernel
theorem F_Arranger_findTimes_43 : fetch m_Arranger_findTimes 43 = some (.aload_n 0) := by decide +kernel
theorem F_Arranger_findTimes_44 : fetch m_Arranger_findTimes 44 = some (.getfield 39) := by decide +kernel
theorem F_Arranger_findTimes_47 : fetch m_Arranger_findTimes 47 = some (.iload_n 2) := by decide +kernel
theorem F_Arranger_findTimes_48 : fetch m_Arranger_findTimes 48 = some (.invokevirtual 209) := by decide +kernel
theorem F_Arranger_findTimes_51 : fetch m_Arranger_findTimes 51 = some (.lastore) := by decide +kernel
theorem F_Arranger_findTimes_52 : fetch m_Arranger_findTimes 52 = some (.aload_n 0) := by decide +kernel
theorem F_Arranger_findTimes_53 : fetch m_Arranger_findTimes 53 = some (.getfield 53) := by decide +kernel
theorem F_Arranger_findTimes_56 : fetch m_Arranger_findTimes 56 = some (.iload_n 2) := by decide +kernel
theorem F_Arranger_findTimes_57 : fetch m_Arranger_findTimes 57 = some (.aload_n 0) := by decide +kernel
theorem F_Arranger_findTimes_58 : fetch m_Arranger_findTimes 58 = some (.getfield 46) := by decide +kernel
theorem F_Arranger_findTimes_61 : fetch m_Arranger_findTimes 61 = some (.iload_n 2) := by decide +kernel
theorem F_Arranger_findTimes_62 : fetch m_Arranger_findTimes 62 = some (.baload) := by decide +kernel
theorem F_Arranger_findTimes_63 : fetch m_Arranger_findTimes 63 = some (.ifCond .eq 15) := by decide +kernel
theorem F_Arranger_findTimes_66 : fetch m_Arranger_findTimes 66 = some (.aload_n 0) := by decide +kernel
theorem F_Arranger_findTimes_67 : fetch m_Arranger_findTimes 67 = some (.aload_n 0) := by decide +kernel
theorem F_Arranger_findTimes_68 : fetch m_Arranger_findTimes 68 = some (.getfield 43) := by decide +kernel
theorem F_Arranger_findTimes_71 : fetch m_Arranger_findTimes 71 = some (.iload_n 2) := by decide +kernel
theorem F_Arranger_findTimes_72 : fetch m_Arranger_findTimes 72 = some (.invokevirtual 209) := by decide +kernel
theorem F_Arranger_findTimes_75 : fetch m_Arranger_findTimes 75 = some (.goto 4) := by decide +kernel
theorem F_Arranger_findTimes_78 : fetch m_Arranger_findTimes 78 = some (.lconst 0) := by decide +kernel
theorem F_Arranger_findTimes_79 : fetch m_Arranger_findTimes 79 = some (.lastore) := by decide +kernel
theorem F_Arranger_findTimes_80 : fetch m_Arranger_findTimes 80 = some (.iinc 2 1) := by decide +kernel
theorem F_Arranger_findTimes_83 : fetch m_Arranger_findTimes 83 = some (.goto (-81)) := by decide +kernel
theorem F_Arranger_findTimes_86 : fetch m_Arranger_findTimes 86 = some (.aload_n 0) := by decide +kernel
theorem F_Arranger_findTimes_87 : fetch m_Arranger_findTimes 87 = some (.getfield 24) := by decide +kernel
theorem F_Arranger_findTimes_90 : fetch m_Arranger_findTimes 90 = some (.lconst 0) := by decide +kernel
theorem F_Arranger_findTimes_91 : fetch m_Arranger_findTimes 91 = some (.invokestatic 213) := by decide +kernel
theorem F_Arranger_findTimes_94 : fetch m_Arranger_findTimes 94 = some (.aload_n 0) := by decide +kernel
theorem F_Arranger_findTimes_95 : fetch m_Arranger_findTimes 95 = some (.aload_n 1) := by decide +kernel
theorem F_Arranger_findTimes_96 : fetch m_Arranger_findTimes 96 = some (.getfield 176) := by decide +kernel
theorem F_Arranger_findTimes_99 : fetch m_Arranger_findTimes 99 = some (.iconst 0) := by decide +kernel
theorem F_Arranger_findTimes_100 : fetch m_Arranger_findTimes 100 = some (.invokevirtual 209) := by decide +kernel
theorem F_Arranger_findTimes_103 : fetch m_Arranger_findTimes 103 = some (.lstore_n 2) := by decide +kernel
theorem F_Arranger_findTimes_104 : fetch m_Arranger_findTimes 104 = some (.iconst 0) := by decide +kernel
theorem F_Arranger_findTimes_105 : fetch m_Arranger_findTimes 105 = some (.istore 4) := by decide +kernel
theorem F_Arranger_findTimes_107 : fetch m_Arranger_findTimes 107 = some (.iload 4) := by decide +kernel
theorem F_Arranger_findTimes_109 : fetch m_Arranger_findTimes 109 = some (.aload_n 0) := by decide +kernel
theorem F_Arranger_findTimes_110 : fetch m_Arranger_findTimes 110 = some (.getfield 68) := by decide +kernel
theorem F_Arranger_findTimes_113 : fetch m_Arranger_findTimes 113 = some (.if_icmp .gt 23) := by decide +kernel
theorem F_Arranger_findTimes_116 : fetch m_Arranger_findTimes 116 = some (.aload_n 0) := by decide +kernel
theorem F_Arranger_findTimes_117 : fetch m_Arranger_findTimes 117 = some (.lload_n 2) := by decide +kernel
theorem F_Arranger_findTimes_118 : fetch m_Arranger_findTimes 118 = some (.invokevirtual 219) := by decide +kernel
theorem F_Arranger_findTimes_121 : fetch m_Arranger_findTimes 121 = some (.aload_n 0) := by decide +kernel
theorem F_Arranger_findTimes_122 : fetch m_Arranger_findTimes 122 = some (.invokevirtual 223) := by decide +kernel
theorem F_Arranger_findTimes_125 : fetch m_Arranger_findTimes 125 = some (.ifCond .ne 5) := by decide +kernel
theorem F_Arranger_findTimes_128 : fetch m_Arranger_findTimes 128 = some (.iconst 1) := by decide +kernel
theorem F_Arranger_findTimes_129 : fetch m_Arranger_findTimes 129 = some (.ireturn) := by decide +kernel
theorem F_Arranger_findTimes_130 : fetch m_Arranger_findTimes 130 = some (.iinc 4 1) := by decide +kernel
theorem F_Arranger_findTimes_133 : fetch m_Arranger_findTimes 133 = some (.goto (-26)) := by decide +kernel
theorem F_Arranger_findTimes_136 : fetch m_Arranger_findTimes 136 = some (.iconst 0) := by decide +kernel
theorem F_Arranger_findTimes_137 : fetch m_Arranger_findTimes 137 = some (.ireturn) := by decide +kernel
theorem F_Arranger_inUnits_0 : fetch m_Arranger_inUnits 0 = some (.aload_n 1) := by decide +kernel
theorem F_Arranger_inUnits_1 : fetch m_Arranger_inUnits 1 = some (.getfield 195) := by decide +kernel
theorem F_Arranger_inUnits_4 : fetch m_Arranger_inUnits 4 = some (.iload_n 2) := by decide +kernel
theorem F_Arranger_inUnits_5 : fetch m_Arranger_inUnits 5 = some (.laload) := by decide +kernel
theorem F_Arranger_inUnits_6 : fetch m_Arranger_inUnits 6 = some (.lconst 0) := by decide +kernel
theorem F_Arranger_inUnits_7 : fetch m_Arranger_inUnits 7 = some (.lcmp) := by decide +kernel
theorem F_Arranger_inUnits_8 : fetch m_Arranger_inUnits 8 = some (.ifCond .le 24) := by decide +kernel
theorem F_Arranger_inUnits_11 : fetch m_Arranger_inUnits 11 = some (.aload_n 1) := by decide +kernel
theorem F_Arranger_inUnits_12 : fetch m_Arranger_inUnits 12 = some (.getfield 198) := by decide +kernel
theorem F_Arranger_inUnits_15 : fetch m_Arranger_inUnits 15 = some (.iload_n 2) := by decide +kernel
theorem F_Arranger_inUnits_16 : fetch m_Arranger_inUnits 16 = some (.laload) := by decide +kernel
theorem F_Arranger_inUnits_17 : fetch m_Arranger_inUnits 17 = some (.aload_n 0) := by decide +kernel
theorem F_Arranger_inUnits_18 : fetch m_Arranger_inUnits 18 = some (.getfield 161) := by decide +kernel
theorem F_Arranger_inUnits_21 : fetch m_Arranger_inUnits 21 = some (.aload_n 1) := by decide +kernel
theorem F_Arranger_inUnits_22 : fetch m_Arranger_inUnits 22 = some (.getfield 195) := by decide +kernel
theorem F_Arranger_inUnits_25 : fetch m_Arranger_inUnits 25 = some (.iload_n 2) := by decide +kernel
theorem F_Arranger_inUnits_26 : fetch m_Arranger_inUnits 26 = some (.laload) := by decide +kernel
theorem F_Arranger_inUnits_27 : fetch m_Arranger_inUnits 27 = some (.ldiv) := by decide +kernel
theorem F_Arranger_inUnits_28 : fetch m_Arranger_inUnits 28 = some (.lmul) := by decide +kernel
theorem F_Arranger_inUnits_29 : fetch m_Arranger_inUnits 29 = some (.goto 4) := by decide +kernel
theorem F_Arranger_inUnits_32 : fetch m_Arranger_inUnits 32 = some (.lconst 0) := by decide +kernel
theorem F_Arranger_inUnits_33 : fetch m_Arranger_inUnits 33 = some (.lreturn) := by decide +kernel
theorem F_Arranger_delayPoints_0 : fetch m_Arranger_delayPoints 0 = some (.iconst 0) := by decide +kernel
theorem F_Arranger_delayPoints_1 : fetch m_Arranger_delayPoints 1 = some (.istore_n 3) := by decide +kernel
theorem F_Arranger_delayPoints_2 : fetch m_Arranger_delayPoints 2 = some (.iload_n 3) := by decide +kernel
theorem F_Arranger_delayPoints_3 : fetch m_Arranger_delayPoints 3 = some (.aload_n 0) := by decide +kernel
theorem F_Arranger_delayPoints_4 : fetch m_Arranger_delayPoints 4 = some (.getfield 64) := by decide +kernel
theorem F_Arranger_delayPoints_7 : fetch m_Arranger_delayPoints 7 = some (.if_icmp .ge 123) := by decide +kernel
theorem F_Arranger_delayPoints_10 : fetch m_Arranger_delayPoints 10 = some (.iload_n 3) := by decide +kernel
theorem F_Arranger_delayPoints_11 : fetch m_Arranger_delayPoints 11 = some (.ifCond .le 14) := by decide +kernel
theorem F_Arranger_delayPoints_14 : fetch m_Arranger_delayPoints 14 = some (.aload_n 0) := by decide +kernel
theorem F_Arranger_delayPoints_15 : fetch m_Arranger_delayPoints 15 = some (.getfield 24) := by decide +kernel
theorem F_Arranger_delayPoints_18 : fetch m_Arranger_delayPoints 18 = some (.iload_n 3) := by decide +kernel
theorem F_Arranger_delayPoints_19 : fetch m_Arranger_delayPoints 19 = some (.iconst 1) := by decide +kernel
theorem F_Arranger_delayPoints_20 : fetch m_Arranger_delayPoints 20 = some (.isub) := by decide +kernel
theorem F_Arranger_delayPoints_21 : fetch m_Arranger_delayPoints 21 = some (.laload) := by decide +kernel
theorem F_Arranger_delayPoints_22 : fetch m_Arranger_delayPoints 22 = some (.goto 4) := by decide +kernel
theorem F_Arranger_delayPoints_25 : fetch m_Arranger_delayPoints 25 = some (.lconst 0) := by decide +kernel
theorem F_Arranger_delayPoints_26 : fetch m_Arranger_delayPoints 26 = some (.lstore 4) := by decide +kernel
theorem F_Arranger_delayPoints_28 : fetch m_Arranger_delayPoints 28 = some (.aload_n 0) := by decide +kernel
theorem F_Arranger_delayPoints_29 : fetch m_Arranger_delayPoints 29 = some (.getfield 21) := by decide +kernel
theorem F_Arranger_delayPoints_32 : fetch m_Arranger_delayPoints 32 = some (.iload_n 3) := by decide +kernel
theorem F_Arranger_delayPoints_33 : fetch m_Arranger_delayPoints 33 = some (.iaload) := by decide +kernel
theorem F_Arranger_delayPoints_34 : fetch m_Arranger_delayPoints 34 = some (.iconst (-1)) := by decide +kernel
theorem F_Arranger_delayPoints_35 : fetch m_Arranger_delayPoints 35 = some (.if_icmp .eq 23) := by decide +kernel
theorem F_Arranger_delayPoints_38 : fetch m_Arranger_delayPoints 38 = some (.lload 4) := by decide +kernel
theorem F_Arranger_delayPoints_40 : fetch m_Arranger_delayPoints 40 = some (.aload_n 0) := by decide +kernel
theorem F_Arranger_delayPoints_41 : fetch m_Arranger_delayPoints 41 = some (.getfield 24) := by decide +kernel
theorem F_Arranger_delayPoints_44 : fetch m_Arranger_delayPoints 44 = some (.aload_n 0) := by decide +kernel
theorem F_Arranger_delayPoints_45 : fetch m_Arranger_delayPoints 45 = some (.getfield 21) := by decide +kernel
theorem F_Arranger_delayPoints_48 : fetch m_Arranger_delayPoints 48 = some (.iload_n 3) := by decide +kernel
theorem F_Arranger_delayPoints_49 : fetch m_Arranger_delayPoints 49 = some (.iaload) := by decide +kernel
theorem F_Arranger_delayPoints_50 : fetch m_Arranger_delayPoints 50 = some (.laload) := by decide +kernel
theorem F_Arranger_delayPoints_51 : fetch m_Arranger_delayPoints 51 = some (.lload_n 1) := by decide +kernel
theorem F_Arranger_delayPoints_52 : fetch m_Arranger_delayPoints 52 = some (.ladd) := by decide +kernel
theorem F_Arranger_delayPoints_53 : fetch m_Arranger_delayPoints 53 = some (.invokestatic 227) := by decide +kernel
theorem F_Arranger_delayPoints_56 : fetch m_Arranger_delayPoints 56 = some (.lstore 4) := by decide +kernel
theorem F_Arranger_delayPoints_58 : fetch m_Arranger_delayPoints 58 = some (.aload_n 0) := by decide +kernel
theorem F_Arranger_delayPoints_59 : fetch m_Arranger_delayPoints 59 = some (.getfield 17) := by decide +kernel
theorem F_Arranger_delayPoints_62 : fetch m_Arranger_delayPoints 62 = some (.iload_n 3) := by decide +kernel
theorem F_Arranger_delayPoints_63 : fetch m_Arranger_delayPoints 63 = some (.iaload) := by decide +kernel
theorem F_Arranger_delayPoints_64 : fetch m_Arranger_delayPoints 64 = some (.invokestatic 134) := by decide +kernel
theorem F_Arranger_delayPoints_67 : fetch m_Arranger_delayPoints 67 = some (.ifCond .eq 40) := by decide +kernel
theorem F_Arranger_delayPoints_70 : fetch m_Arranger_delayPoints 70 = some (.aload_n 0) := by decide +kernel
theorem F_Arranger_delayPoints_71 : fetch m_Arranger_delayPoints 71 = some (.getfield 17) := by decide +kernel
theorem F_Arranger_delayPoints_74 : fetch m_Arranger_delayPoints 74 = some (.iload_n 3) := by decide +kernel
theorem F_Arranger_delayPoints_75 : fetch m_Arranger_delayPoints 75 = some (.iaload) := by decide +kernel
theorem F_Arranger_delayPoints_76 : fetch m_Arranger_delayPoints 76 = some (.iconst 2) := by decide +kernel
theorem F_Arranger_delayPoints_77 : fetch m_Arranger_delayPoints 77 = some (.idiv) := by decide +kernel
theorem F_Arranger_delayPoints_78 : fetch m_Arranger_delayPoints 78 = some (.istore 6) := by decide +kernel
theorem F_Arranger_delayPoints_80 : fetch m_Arranger_delayPoints 80 = some (.lload 4) := by decide +kernel
theorem F_Arranger_delayPoints_82 : fetch m_Arranger_delayPoints 82 = some (.aload_n 0) := by decide +kernel
theorem F_Arranger_delayPoints_83 : fetch m_Arranger_delayPoints 83 = some (.getfield 24) := by decide +kernel
theorem F_Arranger_delayPoints_86 : fetch m_Arranger_delayPoints 86 = some (.aload_n 0) := by decide +kernel
theorem F_Arranger_delayPoints_87 : fetch m_Arranger_delayPoints 87 = some (.getfield 31) := by decide +kernel
theorem F_Arranger_delayPoints_90 : fetch m_Arranger_delayPoints 90 = some (.iload 6) := by decide +kernel
theorem F_Arranger_delayPoints_92 : fetch m_Arranger_delayPoints 92 = some (.iaload) := by decide +kernel
theorem F_Arranger_delayPoints_93 : fetch m_Arranger_delayPoints 93 = some (.laload) := by decide +kernel
theorem F_Arranger_delayPoints_94 : fetch m_Arranger_delayPoints 94 = some (.aload_n 0) := by decide +kernel
theorem F_Arranger_delayPoints_95 : fetch m_Arranger_delayPoints 95 = some (.getfield 50) := by decide +kernel
theorem F_Arranger_delayPoints_98 : fetch m_Arranger_delayPoints 98 = some (.iload 6) := by decide +kernel
theorem F_Arranger_delayPoints_100 : fetch m_Arranger_delayPoints 100 = some (.laload) := by decide +kernel
theorem F_Arranger_delayPoints_101 : fetch m_Arranger_delayPoints 101 = some (.ladd) := by decide +kernel
theorem F_Arranger_delayPoints_102 : fetch m_Arranger_delayPoints 102 = some (.invokestatic 227) := by decide +kernel
theorem F_Arranger_delayPoints_105 : fetch m_Arranger_delayPoints 105 = some (.lstore 4) := by decide +kernel
theorem F_Arranger_delayPoints_107 : fetch m_Arranger_delayPoints 107 = some (.aload_n 0) := by decide +kernel
theorem F_Arranger_delayPoints_108 : fetch m_Arranger_delayPoints 108 = some (.getfield 24) := by decide +kernel
theorem F_Arranger_delayPoints_111 : fetch m_Arranger_delayPoints 111 = some (.iload_n 3) := by decide +kernel
theorem F_Arranger_delayPoints_112 : fetch m_Arranger_delayPoints 112 = some (.lload 4) := by decide +kernel
theorem F_Arranger_delayPoints_114 : fetch m_Arranger_delayPoints 114 = some (.aload_n 0) := by decide +kernel
theorem F_Arranger_delayPoints_115 : fetch m_Arranger_delayPoints 115 = some (.getfield 24) := by decide +kernel
theorem F_Arranger_delayPoints_118 : fetch m_Arranger_delayPoints 118 = some (.iload_n 3) := by decide +kernel
theorem F_Arranger_delayPoints_119 : fetch m_Arranger_delayPoints 119 = some (.laload) := by decide +kernel
theorem F_Arranger_delayPoints_120 : fetch m_Arranger_delayPoints 120 = some (.invokestatic 227) := by decide +kernel
theorem F_Arranger_delayPoints_123 : fetch m_Arranger_delayPoints 123 = some (.lastore) := by decide +kernel
theorem F_Arranger_delayPoints_124 : fetch m_Arranger_delayPoints 124 = some (.iinc 3 1) := by decide +kernel
theorem F_Arranger_delayPoints_127 : fetch m_Arranger_delayPoints 127 = some (.goto (-125)) := by decide +kernel
theorem F_Arranger_delayPoints_130 : fetch m_Arranger_delayPoints 130 = some (.return_) := by decide +kernel
theorem F_Arranger_delayStarts_0 : fetch m_Arranger_delayStarts 0 = some (.iconst 0) := by decide +kernel
theorem F_Arranger_delayStarts_1 : fetch m_Arranger_delayStarts 1 = some (.istore_n 1) := by decide +kernel
theorem F_Arranger_delayStarts_2 : fetch m_Arranger_delayStarts 2 = some (.iconst 0) := by decide +kernel
theorem F_Arranger_delayStarts_3 : fetch m_Arranger_delayStarts 3 = some (.istore_n 2) := by decide +kernel
theorem F_Arranger_delayStarts_4 : fetch m_Arranger_delayStarts 4 = some (.iload_n 2) := by decide +kernel
theorem F_Arranger_delayStarts_5 : fetch m_Arranger_delayStarts 5 = some (.aload_n 0) := by decide +kernel
theorem F_Arranger_delayStarts_6 : fetch m_Arranger_delayStarts 6 = some (.getfield 64) := by decide +kernel
theorem F_Arranger_delayStarts_9 : fetch m_Arranger_delayStarts 9 = some (.if_icmp .ge 86) := by decide +kernel
theorem F_Arranger_delayStarts_12 : fetch m_Arranger_delayStarts 12 = some (.aload_n 0) := by decide +kernel
theorem F_Arranger_delayStarts_13 : fetch m_Arranger_delayStarts 13 = some (.getfield 17) := by decide +kernel
theorem F_Arranger_delayStarts_16 : fetch m_Arranger_delayStarts 16 = some (.iload_n 2) := by decide +kernel
theorem F_Arranger_delayStarts_17 : fetch m_Arranger_delayStarts 17 = some (.iaload) := by decide +kernel
theorem F_Arranger_delayStarts_18 : fetch m_Arranger_delayStarts 18 = some (.iconst 2) := by decide +kernel
theorem F_Arranger_delayStarts_19 : fetch m_Arranger_delayStarts 19 = some (.idiv) := by decide +kernel
theorem F_Arranger_delayStarts_20 : fetch m_Arranger_delayStarts 20 = some (.istore_n 3) := by decide +kernel
theorem F_Arranger_delayStarts_21 : fetch m_Arranger_delayStarts 21 = some (.aload_n 0) := by decide +kernel
theorem F_Arranger_delayStarts_22 : fetch m_Arranger_delayStarts 22 = some (.getfield 17) := by decide +kernel
theorem F_Arranger_delayStarts_25 : fetch m_Arranger_delayStarts 25 = some (.iload_n 2) := by decide +kernel
theorem F_Arranger_delayStarts_26 : fetch m_Arranger_delayStarts 26 = some (.iaload) := by decide +kernel
theorem F_Arranger_delayStarts_27 : fetch m_Arranger_delayStarts 27 = some (.invokestatic 134) := by decide +kernel
theorem F_Arranger_delayStarts_30 : fetch m_Arranger_delayStarts 30 = some (.ifCond .eq 59) := by decide +kernel
theorem F_Arranger_delayStarts_33 : fetch m_Arranger_delayStarts 33 = some (.aload_n 0) := by decide +kernel
theorem F_Arranger_delayStarts_34 : fetch m_Arranger_delayStarts 34 = some (.getfield 46) := by decide +kernel
theorem F_Arranger_delayStarts_37 : fetch m_Arranger_delayStarts 37 = some (.iload_n 3) := by decide +kernel
theorem F_Arranger_delayStarts_38 : fetch m_Arranger_delayStarts 38 = some (.baload) := by decide +kernel
theorem F_Arranger_delayStarts_39 : fetch m_Arranger_delayStarts 39 = some (.ifCond .eq 50) := by decide +kernel
theorem F_Arranger_delayStarts_42 : fetch m_Arranger_delayStarts 42 = some (.aload_n 0) := by decide +kernel
theorem F_Arranger_delayStarts_43 : fetch m_Arranger_delayStarts 43 = some (.getfield 24) := by decide +kernel
theorem F_Arranger_delayStarts_46 : fetch m_Arranger_delayStarts 46 = some (.iload_n 2) := by decide +kernel
theorem F_Arranger_delayStarts_47 : fetch m_Arranger_delayStarts 47 = some (.laload) := by decide +kernel
theorem F_Arranger_delayStarts_48 : fetch m_Arranger_delayStarts 48 = some (.aload_n 0) := by decide +kernel
theorem F_Arranger_delayStarts_49 : fetch m_Arranger_delayStarts 49 = some (.getfield 53) := by decide +kernel
theorem F_Arranger_delayStarts_52 : fetch m_Arranger_delayStarts 52 = some (.iload_n 3) := by decide +kernel
theorem F_Arranger_delayStarts_53 : fetch m_Arranger_delayStarts 53 = some (.laload) := by decide +kernel
theorem F_Arranger_delayStarts_54 : fetch m_Arranger_delayStarts 54 = some (.lsub) := by decide +kernel
theorem F_Arranger_delayStarts_55 : fetch m_Arranger_delayStarts 55 = some (.lstore 4) := by decide +kernel
theorem F_Arranger_delayStarts_57 : fetch m_Arranger_delayStarts 57 = some (.lload 4) := by decide +kernel
theorem F_Arranger_delayStarts_59 : fetch m_Arranger_delayStarts 59 = some (.aload_n 0) := by decide +kernel
theorem F_Arranger_delayStarts_60 : fetch m_Arranger_delayStarts 60 = some (.getfield 24) := by decide +kernel
theorem F_Arranger_delayStarts_63 : fetch m_Arranger_delayStarts 63 = some (.aload_n 0) := by decide +kernel
theorem F_Arranger_delayStarts_64 : fetch m_Arranger_delayStarts 64 = some (.getfield 31) := by decide +kernel
theorem F_Arranger_delayStarts_67 : fetch m_Arranger_delayStarts 67 = some (.iload_n 3) := by decide +kernel
theorem F_Arranger_delayStarts_68 : fetch m_Arranger_delayStarts 68 = some (.iaload) := by decide +kernel
theorem F_Arranger_delayStarts_69 : fetch m_Arranger_delayStarts 69 = some (.laload) := by decide +kernel
theorem F_Arranger_delayStarts_70 : fetch m_Arranger_delayStarts 70 = some (.lcmp) := by decide +kernel
theorem F_Arranger_delayStarts_71 : fetch m_Arranger_delayStarts 71 = some (.ifCond .le 18) := by decide +kernel
theorem F_Arranger_delayStarts_74 : fetch m_Arranger_delayStarts 74 = some (.aload_n 0) := by decide +kernel
theorem F_Arranger_delayStarts_75 : fetch m_Arranger_delayStarts 75 = some (.getfield 24) := by decide +kernel
theorem F_Arranger_delayStarts_78 : fetch m_Arranger_delayStarts 78 = some (.aload_n 0) := by decide +kernel
theorem F_Arranger_delayStarts_79 : fetch m_Arranger_delayStarts 79 = some (.getfield 31) := by decide +kernel
theorem F_Arranger_delayStarts_82 : fetch m_Arranger_delayStarts 82 = some (.iload_n 3) := by decide +kernel
theorem F_Arranger_delayStarts_83 : fetch m_Arranger_delayStarts 83 = some (.iaload) := by decide +kernel
theorem F_Arranger_delayStarts_84 : fetch m_Arranger_delayStarts 84 = some (.lload 4) := by decide +kernel
theorem F_Arranger_delayStarts_86 : fetch m_Arranger_delayStarts 86 = some (.lastore) := by decide +kernel
theorem F_Arranger_delayStarts_87 : fetch m_Arranger_delayStarts 87 = some (.iconst 1) := by decide +kernel
theorem F_Arranger_delayStarts_88 : fetch m_Arranger_delayStarts 88 = some (.istore_n 1) := by decide +kernel
theorem F_Arranger_delayStarts_89 : fetch m_Arranger_delayStarts 89 = some (.iinc 2 1) := by decide +kernel
theorem F_Arranger_delayStarts_92 : fetch m_Arranger_delayStarts 92 = some (.goto (-88)) := by decide +kernel
theorem F_Arranger_delayStarts_95 : fetch m_Arranger_delayStarts 95 = some (.iload_n 1) := by decide +kernel
theorem F_Arranger_delayStarts_96 : fetch m_Arranger_delayStarts 96 = some (.ireturn) := by decide +kernel
theorem F_Arranger_tellTimes_0 : fetch m_Arranger_tellTimes 0 = some (.iconst 0) := by decide +kernel
theorem F_Arranger_tellTimes_1 : fetch m_Arranger_tellTimes 1 = some (.istore_n 2) := by decide +kernel
theorem F_Arranger_tellTimes_2 : fetch m_Arranger_tellTimes 2 = some (.iload_n 2) := by decide +kernel
theorem F_Arranger_tellTimes_3 : fetch m_Arranger_tellTimes 3 = some (.aload_n 0) := by decide +kernel
theorem F_Arranger_tellTimes_4 : fetch m_Arranger_tellTimes 4 = some (.getfield 64) := by decide +kernel
theorem F_Arranger_tellTimes_7 : fetch m_Arranger_tellTimes 7 = some (.if_icmp .ge 81) := by decide +kernel
theorem F_Arranger_tellTimes_10 : fetch m_Arranger_tellTimes 10 = some (.aload_n 0) := by decide +kernel
theorem F_Arranger_tellTimes_11 : fetch m_Arranger_tellTimes 11 = some (.getfield 17) := by decide +kernel
theorem F_Arranger_tellTimes_14 : fetch m_Arranger_tellTimes 14 = some (.iload_n 2) := by decide +kernel
theorem F_Arranger_tellTimes_15 : fetch m_Arranger_tellTimes 15 = some (.iaload) := by decide +kernel
theorem F_Arranger_tellTimes_16 : fetch m_Arranger_tellTimes 16 = some (.iconst 2) := by decide +kernel
theorem F_Arranger_tellTimes_17 : fetch m_Arranger_tellTimes 17 = some (.idiv) := by decide +kernel
theorem F_Arranger_tellTimes_18 : fetch m_Arranger_tellTimes 18 = some (.istore_n 3) := by decide +kernel
theorem F_Arranger_tellTimes_19 : fetch m_Arranger_tellTimes 19 = some (.aload_n 0) := by decide +kernel
theorem F_Arranger_tellTimes_20 : fetch m_Arranger_tellTimes 20 = some (.getfield 17) := by decide +kernel
theorem F_Arranger_tellTimes_23 : fetch m_Arranger_tellTimes 23 = some (.iload_n 2) := by decide +kernel
theorem F_Arranger_tellTimes_24 : fetch m_Arranger_tellTimes 24 = some (.iaload) := by decide +kernel
theorem F_Arranger_tellTimes_25 : fetch m_Arranger_tellTimes 25 = some (.invokestatic 134) := by decide +kernel
theorem F_Arranger_tellTimes_28 : fetch m_Arranger_tellTimes 28 = some (.ifCond .eq 36) := by decide +kernel
theorem F_Arranger_tellTimes_31 : fetch m_Arranger_tellTimes 31 = some (.aload_n 1) := by decide +kernel
theorem F_Arranger_tellTimes_32 : fetch m_Arranger_tellTimes 32 = some (.getfield 158) := by decide +kernel
theorem F_Arranger_tellTimes_35 : fetch m_Arranger_tellTimes 35 = some (.iload_n 3) := by decide +kernel
theorem F_Arranger_tellTimes_36 : fetch m_Arranger_tellTimes 36 = some (.aload_n 0) := by decide +kernel
theorem F_Arranger_tellTimes_37 : fetch m_Arranger_tellTimes 37 = some (.getfield 24) := by decide +kernel
theorem F_Arranger_tellTimes_40 : fetch m_Arranger_tellTimes 40 = some (.iload_n 2) := by decide +kernel
theorem F_Arranger_tellTimes_41 : fetch m_Arranger_tellTimes 41 = some (.laload) := by decide +kernel
theorem F_Arranger_tellTimes_42 : fetch m_Arranger_tellTimes 42 = some (.aload_n 0) := by decide +kernel
theorem F_Arranger_tellTimes_43 : fetch m_Arranger_tellTimes 43 = some (.getfield 24) := by decide +kernel
theorem F_Arranger_tellTimes_46 : fetch m_Arranger_tellTimes 46 = some (.aload_n 0) := by decide +kernel
theorem F_Arranger_tellTimes_47 : fetch m_Arranger_tellTimes 47 = some (.getfield 31) := by decide +kernel
theorem F_Arranger_tellTimes_50 : fetch m_Arranger_tellTimes 50 = some (.iload_n 3) := by decide +kernel
theorem F_Arranger_tellTimes_51 : fetch m_Arranger_tellTimes 51 = some (.iaload) := by decide +kernel
theorem F_Arranger_tellTimes_52 : fetch m_Arranger_tellTimes 52 = some (.laload) := by decide +kernel
theorem F_Arranger_tellTimes_53 : fetch m_Arranger_tellTimes 53 = some (.lsub) := by decide +kernel
theorem F_Arranger_tellTimes_54 : fetch m_Arranger_tellTimes 54 = some (.aload_n 0) := by decide +kernel
theorem F_Arranger_tellTimes_55 : fetch m_Arranger_tellTimes 55 = some (.getfield 161) := by decide +kernel
theorem F_Arranger_tellTimes_58 : fetch m_Arranger_tellTimes 58 = some (.invokevirtual 165) := by decide +kernel
theorem F_Arranger_tellTimes_61 : fetch m_Arranger_tellTimes 61 = some (.goto 21) := by decide +kernel
theorem F_Arranger_tellTimes_64 : fetch m_Arranger_tellTimes 64 = some (.aload_n 1) := by decide +kernel
theorem F_Arranger_tellTimes_65 : fetch m_Arranger_tellTimes 65 = some (.getfield 169) := by decide +kernel
theorem F_Arranger_tellTimes_68 : fetch m_Arranger_tellTimes 68 = some (.iload_n 3) := by decide +kernel
theorem F_Arranger_tellTimes_69 : fetch m_Arranger_tellTimes 69 = some (.aload_n 0) := by decide +kernel
theorem F_Arranger_tellTimes_70 : fetch m_Arranger_tellTimes 70 = some (.getfield 24) := by decide +kernel
theorem F_Arranger_tellTimes_73 : fetch m_Arranger_tellTimes 73 = some (.iload_n 2) := by decide +kernel
theorem F_Arranger_tellTimes_74 : fetch m_Arranger_tellTimes 74 = some (.laload) := by decide +kernel
theorem F_Arranger_tellTimes_75 : fetch m_Arranger_tellTimes 75 = some (.aload_n 0) := by decide +kernel
theorem F_Arranger_tellTimes_76 : fetch m_Arranger_tellTimes 76 = some (.getfield 161) := by decide +kernel
theorem F_Arranger_tellTimes_79 : fetch m_Arranger_tellTimes 79 = some (.invokevirtual 165) := by decide +kernel
theorem F_Arranger_tellTimes_82 : fetch m_Arranger_tellTimes 82 = some (.iinc 2 1) := by decide +kernel
theorem F_Arranger_tellTimes_85 : fetch m_Arranger_tellTimes 85 = some (.goto (-83)) := by decide +kernel
theorem F_Arranger_tellTimes_88 : fetch m_Arranger_tellTimes 88 = some (.return_) := by decide +kernel
theorem F_Arranger_reached_0 : fetch m_Arranger_reached 0 = some (.aload_n 0) := by decide +kernel
theorem F_Arranger_reached_1 : fetch m_Arranger_reached 1 = some (.getfield 11) := by decide +kernel
theorem F_Arranger_reached_4 : fetch m_Arranger_reached 4 = some (.iload_n 1) := by decide +kernel
theorem F_Arranger_reached_5 : fetch m_Arranger_reached 5 = some (.iconst 5) := by decide +kernel
theorem F_Arranger_reached_6 : fetch m_Arranger_reached 6 = some (.if_icmp .ne 12) := by decide +kernel
theorem F_Arranger_reached_9 : fetch m_Arranger_reached 9 = some (.aload_n 0) := by decide +kernel
theorem F_Arranger_reached_10 : fetch m_Arranger_reached 10 = some (.getfield 64) := by decide +kernel
theorem F_Arranger_reached_13 : fetch m_Arranger_reached 13 = some (.iconst 1) := by decide +kernel
theorem F_Arranger_reached_14 : fetch m_Arranger_reached 14 = some (.iadd) := by decide +kernel
theorem F_Arranger_reached_15 : fetch m_Arranger_reached 15 = some (.goto 7) := by decide +kernel
theorem F_Arranger_reached_18 : fetch m_Arranger_reached 18 = some (.aload_n 0) := by decide +kernel
theorem F_Arranger_reached_19 : fetch m_Arranger_reached 19 = some (.getfield 64) := by decide +kernel
theorem F_Arranger_reached_22 : fetch m_Arranger_reached 22 = some (.aaload) := by decide +kernel
theorem F_Arranger_reached_23 : fetch m_Arranger_reached 23 = some (.areturn) := by decide +kernel
theorem F_Arranger_openSteps_0 : fetch m_Arranger_openSteps 0 = some (.iconst 2) := by decide +kernel
theorem F_Arranger_openSteps_1 : fetch m_Arranger_openSteps 1 = some (.aload_n 0) := by decide +kernel
theorem F_Arranger_openSteps_2 : fetch m_Arranger_openSteps 2 = some (.getfield 68) := by decide +kernel
theorem F_Arranger_openSteps_5 : fetch m_Arranger_openSteps 5 = some (.imul) := by decide +kernel
theorem F_Arranger_openSteps_6 : fetch m_Arranger_openSteps 6 = some (.aload_n 0) := by decide +kernel
theorem F_Arranger_openSteps_7 : fetch m_Arranger_openSteps 7 = some (.getfield 64) := by decide +kernel
theorem F_Arranger_openSteps_10 : fetch m_Arranger_openSteps 10 = some (.isub) := by decide +kernel
theorem F_Arranger_openSteps_11 : fetch m_Arranger_openSteps 11 = some (.ireturn) := by decide +kernel
theorem F_Arranger_isOpen_0 : fetch m_Arranger_isOpen 0 = some (.aload_n 0) := by decide +kernel
theorem F_Arranger_isOpen_1 : fetch m_Arranger_isOpen 1 = some (.getfield 71) := by decide +kernel
theorem F_Arranger_isOpen_4 : fetch m_Arranger_isOpen 4 = some (.iload_n 1) := by decide +kernel
theorem F_Arranger_isOpen_5 : fetch m_Arranger_isOpen 5 = some (.ishr) := by decide +kernel
theorem F_Arranger_isOpen_6 : fetch m_Arranger_isOpen 6 = some (.iconst 1) := by decide +kernel
theorem F_Arranger_isOpen_7 : fetch m_Arranger_isOpen 7 = some (.iand) := by decide +kernel
theorem F_Arranger_isOpen_8 : fetch m_Arranger_isOpen 8 = some (.ifCond .eq 7) := by decide +kernel
theorem F_Arranger_isOpen_11 : fetch m_Arranger_isOpen 11 = some (.iconst 1) := by decide +kernel
theorem F_Arranger_isOpen_12 : fetch m_Arranger_isOpen 12 = some (.goto 4) := by decide +kernel
theorem F_Arranger_isOpen_15 : fetch m_Arranger_isOpen 15 = some (.iconst 0) := by decide +kernel
theorem F_Arranger_isOpen_16 : fetch m_Arranger_isOpen 16 = some (.ireturn) := by decide +kernel
theorem F_Arranger_takePointBack_0 : fetch m_Arranger_takePointBack 0 = some (.aload_n 0) := by decide +kernel
theorem F_Arranger_takePointBack_1 : fetch m_Arranger_takePointBack 1 = some (.dup) := by decide +kernel
theorem F_Arranger_takePointBack_2 : fetch m_Arranger_takePointBack 2 = some (.getfield 64) := by decide +kernel
theorem F_Arranger_takePointBack_5 : fetch m_Arranger_takePointBack 5 = some (.iconst 1) := by decide +kernel
theorem F_Arranger_takePointBack_6 : fetch m_Arranger_takePointBack 6 = some (.isub) := by decide +kernel
theorem F_Arranger_takePointBack_7 : fetch m_Arranger_takePointBack 7 = some (.putfield 64) := by decide +kernel
theorem F_Arranger_takePointBack_10 : fetch m_Arranger_takePointBack 10 = some (.aload_n 0) := by decide +kernel
theorem F_Arranger_takePointBack_11 : fetch m_Arranger_takePointBack 11 = some (.dup) := by decide +kernel
theorem F_Arranger_takePointBack_12 : fetch m_Arranger_takePointBack 12 = some (.getfield 71) := by decide +kernel
theorem F_Arranger_takePointBack_15 : fetch m_Arranger_takePointBack 15 = some (.iconst 1) := by decide +kernel
theorem F_Arranger_takePointBack_16 : fetch m_Arranger_takePointBack 16 = some (.aload_n 0) := by decide +kernel
theorem F_Arranger_takePointBack_17 : fetch m_Arranger_takePointBack 17 = some (.getfield 17) := by decide +kernel
theorem F_Arranger_takePointBack_20 : fetch m_Arranger_takePointBack 20 = some (.aload_n 0) := by decide +kernel
theorem F_Arranger_takePointBack_21 : fetch m_Arranger_takePointBack 21 = some (.getfield 64) := by decide +kernel
theorem F_Arranger_takePointBack_24 : fetch m_Arranger_takePointBack 24 = some (.iaload) := by decide +kernel
theorem F_Arranger_takePointBack_25 : fetch m_Arranger_takePointBack 25 = some (.iconst 2) := by decide +kernel
theorem F_Arranger_takePointBack_26 : fetch m_Arranger_takePointBack 26 = some (.idiv) := by decide +kernel
theorem F_Arranger_takePointBack_27 : fetch m_Arranger_takePointBack 27 = some (.ishl) := by decide +kernel
theorem F_Arranger_takePointBack_28 : fetch m_Arranger_takePointBack 28 = some (.ixor) := by decide +kernel
theorem F_Arranger_takePointBack_29 : fetch m_Arranger_takePointBack 29 = some (.putfield 71) := by decide +kernel
theorem F_Arranger_takePointBack_32 : fetch m_Arranger_takePointBack 32 = some (.aload_n 0) := by decide +kernel
theorem F_Arranger_takePointBack_33 : fetch m_Arranger_takePointBack 33 = some (.getfield 17) := by decide +kernel
theorem F_Arranger_takePointBack_36 : fetch m_Arranger_takePointBack 36 = some (.aload_n 0) := by decide +kernel
theorem F_Arranger_takePointBack_37 : fetch m_Arranger_takePointBack 37 = some (.getfield 64) := by decide +kernel
theorem F_Arranger_takePointBack_40 : fetch m_Arranger_takePointBack 40 = some (.iaload) := by decide +kernel
theorem F_Arranger_takePointBack_41 : fetch m_Arranger_takePointBack 41 = some (.invokestatic 134) := by decide +kernel
theorem F_Arranger_takePointBack_44 : fetch m_Arranger_takePointBack 44 = some (.ifCond .ne 13) := by decide +kernel
theorem F_Arranger_takePointBack_47 : fetch m_Arranger_takePointBack 47 = some (.aload_n 0) := by decide +kernel
theorem F_Arranger_takePointBack_48 : fetch m_Arranger_takePointBack 48 = some (.dup) := by decide +kernel
theorem F_Arranger_takePointBack_49 : fetch m_Arranger_takePointBack 49 = some (.getfield 68) := by decide +kernel
theorem F_Arranger_takePointBack_52 : fetch m_Arranger_takePointBack 52 = some (.iconst 1) := by decide +kernel
theorem F_Arranger_takePointBack_53 : fetch m_Arranger_takePointBack 53 = some (.isub) := by decide +kernel
theorem F_Arranger_takePointBack_54 : fetch m_Arranger_takePointBack 54 = some (.putfield 68) := by decide +kernel
theorem F_Arranger_takePointBack_57 : fetch m_Arranger_takePointBack 57 = some (.return_) := by decide +kernel
theorem F_Arranger_tellRow_0 : fetch m_Arranger_tellRow 0 = some (.aload_n 1) := by decide +kernel
theorem F_Arranger_tellRow_1 : fetch m_Arranger_tellRow 1 = some (.invokevirtual 149) := by decide +kernel
theorem F_Arranger_tellRow_4 : fetch m_Arranger_tellRow 4 = some (.iconst 0) := by decide +kernel
theorem F_Arranger_tellRow_5 : fetch m_Arranger_tellRow 5 = some (.istore_n 2) := by decide +kernel
theorem F_Arranger_tellRow_6 : fetch m_Arranger_tellRow 6 = some (.iload_n 2) := by decide +kernel
theorem F_Arranger_tellRow_7 : fetch m_Arranger_tellRow 7 = some (.aload_n 0) := by decide +kernel
theorem F_Arranger_tellRow_8 : fetch m_Arranger_tellRow 8 = some (.getfield 68) := by decide +kernel
theorem F_Arranger_tellRow_11 : fetch m_Arranger_tellRow 11 = some (.if_icmp .ge 20) := by decide +kernel
theorem F_Arranger_tellRow_14 : fetch m_Arranger_tellRow 14 = some (.aload_n 1) := by decide +kernel
theorem F_Arranger_tellRow_15 : fetch m_Arranger_tellRow 15 = some (.aload_n 0) := by decide +kernel
theorem F_Arranger_tellRow_16 : fetch m_Arranger_tellRow 16 = some (.getfield 28) := by decide +kernel
theorem F_Arranger_tellRow_19 : fetch m_Arranger_tellRow 19 = some (.iload_n 2) := by decide +kernel
theorem F_Arranger_tellRow_20 : fetch m_Arranger_tellRow 20 = some (.iaload) := by decide +kernel
theorem F_Arranger_tellRow_21 : fetch m_Arranger_tellRow 21 = some (.invokevirtual 152) := by decide +kernel
theorem F_Arranger_tellRow_24 : fetch m_Arranger_tellRow 24 = some (.pop) := by decide +kernel
theorem F_Arranger_tellRow_25 : fetch m_Arranger_tellRow 25 = some (.iinc 2 1) := by decide +kernel
theorem F_Arranger_tellRow_28 : fetch m_Arranger_tellRow 28 = some (.goto (-22)) := by decide +kernel
theorem F_Arranger_tellRow_31 : fetch m_Arranger_tellRow 31 = some (.iconst 0) := by decide +kernel
theorem F_Arranger_tellRow_32 : fetch m_Arranger_tellRow 32 = some (.istore_n 2) := by decide +kernel
theorem F_Arranger_tellRow_33 : fetch m_Arranger_tellRow 33 = some (.iload_n 2) := by decide +kernel
theorem F_Arranger_tellRow_34 : fetch m_Arranger_tellRow 34 = some (.aload_n 0) := by decide +kernel
theorem F_Arranger_tellRow_35 : fetch m_Arranger_tellRow 35 = some (.getfield 64) := by decide +kernel
theorem F_Arranger_tellRow_38 : fetch m_Arranger_tellRow 38 = some (.if_icmp .ge 19) := by decide +kernel
theorem F_Arranger_tellRow_41 : fetch m_Arranger_tellRow 41 = some (.aload_n 1) := by decide +kernel
theorem F_Arranger_tellRow_42 : fetch m_Arranger_tellRow 42 = some (.aload_n 0) := by decide +kernel
theorem F_Arranger_tellRow_43 : fetch m_Arranger_tellRow 43 = some (.getfield 17) := by decide +kernel
theorem F_Arranger_tellRow_46 : fetch m_Arranger_tellRow 46 = some (.iload_n 2) := by decide +kernel
theorem F_Arranger_tellRow_47 : fetch m_Arranger_tellRow 47 = some (.iaload) := by decide +kernel
theorem F_Arranger_tellRow_48 : fetch m_Arranger_tellRow 48 = some (.invokevirtual 155) := by decide +kernel
theorem F_Arranger_tellRow_51 : fetch m_Arranger_tellRow 51 = some (.iinc 2 1) := by decide +kernel
theorem F_Arranger_tellRow_54 : fetch m_Arranger_tellRow 54 = some (.goto (-21)) := by decide +kernel
theorem F_Arranger_tellRow_57 : fetch m_Arranger_tellRow 57 = some (.return_) := by decide +kernel
