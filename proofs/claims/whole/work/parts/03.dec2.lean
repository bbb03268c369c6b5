theorem dX6_choose_2 : decode cX6_choose 2 = .ok (.iconst 0, 1) := by decide +kernel
theorem dX6_choose_3 : decode cX6_choose 3 = .ok (.istore_n 2, 1) := by decide +kernel
theorem dX6_choose_4 : decode cX6_choose 4 = .ok (.iload_n 2, 1) := by decide +kernel
theorem dX6_choose_5 : decode cX6_choose 5 = .ok (.aload_n 0, 1) := by decide +kernel
theorem dX6_choose_6 : decode cX6_choose 6 = .ok (.getfield 9, 3) := by decide +kernel
theorem dX6_choose_9 : decode cX6_choose 9 = .ok (.if_icmp .ge 107, 3) := by decide +kernel
theorem dX6_choose_12 : decode cX6_choose 12 = .ok (.aload_n 0, 1) := by decide +kernel
theorem dX6_choose_13 : decode cX6_choose 13 = .ok (.getfield 25, 3) := by decide +kernel
theorem dX6_choose_16 : decode cX6_choose 16 = .ok (.iload_n 2, 1) := by decide +kernel
theorem dX6_choose_17 : decode cX6_choose 17 = .ok (.iload_n 1, 1) := by decide +kernel
theorem dX6_choose_18 : decode cX6_choose 18 = .ok (.invokestatic 37, 3) := by decide +kernel
theorem dX6_choose_21 : decode cX6_choose 21 = .ok (.iaload, 1) := by decide +kernel
theorem dX6_choose_22 : decode cX6_choose 22 = .ok (.istore_n 3, 1) := by decide +kernel
theorem dX6_choose_23 : decode cX6_choose 23 = .ok (.aload_n 0, 1) := by decide +kernel
theorem dX6_choose_24 : decode cX6_choose 24 = .ok (.getfield 22, 3) := by decide +kernel
theorem dX6_choose_27 : decode cX6_choose 27 = .ok (.iload_n 2, 1) := by decide +kernel
theorem dX6_choose_28 : decode cX6_choose 28 = .ok (.iconst (-1), 1) := by decide +kernel
theorem dX6_choose_29 : decode cX6_choose 29 = .ok (.iastore, 1) := by decide +kernel
theorem dX6_choose_30 : decode cX6_choose 30 = .ok (.iconst 0, 1) := by decide +kernel
theorem dX6_choose_31 : decode cX6_choose 31 = .ok (.istore 4, 2) := by decide +kernel
theorem dX6_choose_33 : decode cX6_choose 33 = .ok (.iload 4, 2) := by decide +kernel
theorem dX6_choose_35 : decode cX6_choose 35 = .ok (.aload_n 0, 1) := by decide +kernel
theorem dX6_choose_36 : decode cX6_choose 36 = .ok (.getfield 9, 3) := by decide +kernel
theorem dX6_choose_39 : decode cX6_choose 39 = .ok (.if_icmp .ge 50, 3) := by decide +kernel
theorem dX6_choose_42 : decode cX6_choose 42 = .ok (.aload_n 0, 1) := by decide +kernel
theorem dX6_choose_43 : decode cX6_choose 43 = .ok (.getfield 22, 3) := by decide +kernel
theorem dX6_choose_46 : decode cX6_choose 46 = .ok (.iload_n 2, 1) := by decide +kernel
theorem dX6_choose_47 : decode cX6_choose 47 = .ok (.iaload, 1) := by decide +kernel
theorem dX6_choose_48 : decode cX6_choose 48 = .ok (.iconst (-1), 1) := by decide +kernel
theorem dX6_choose_49 : decode cX6_choose 49 = .ok (.if_icmp .ne 40, 3) := by decide +kernel
theorem dX6_choose_52 : decode cX6_choose 52 = .ok (.aload_n 0, 1) := by decide +kernel
theorem dX6_choose_53 : decode cX6_choose 53 = .ok (.iload 4, 2) := by decide +kernel
theorem dX6_choose_55 : decode cX6_choose 55 = .ok (.iload_n 2, 1) := by decide +kernel
theorem dX6_choose_56 : decode cX6_choose 56 = .ok (.iload_n 1, 1) := by decide +kernel
theorem dX6_choose_57 : decode cX6_choose 57 = .ok (.invokevirtual 52, 3) := by decide +kernel
theorem dX6_choose_60 : decode cX6_choose 60 = .ok (.ifCond .eq 23, 3) := by decide +kernel
theorem dX6_choose_63 : decode cX6_choose 63 = .ok (.aload_n 0, 1) := by decide +kernel
theorem dX6_choose_64 : decode cX6_choose 64 = .ok (.iload 4, 2) := by decide +kernel
theorem dX6_choose_66 : decode cX6_choose 66 = .ok (.iload_n 2, 1) := by decide +kernel
theorem dX6_choose_67 : decode cX6_choose 67 = .ok (.iload_n 1, 1) := by decide +kernel
theorem dX6_choose_68 : decode cX6_choose 68 = .ok (.invokevirtual 56, 3) := by decide +kernel
theorem dX6_choose_71 : decode cX6_choose 71 = .ok (.iload_n 3, 1) := by decide +kernel
theorem dX6_choose_72 : decode cX6_choose 72 = .ok (.if_icmp .ne 11, 3) := by decide +kernel
theorem dX6_choose_75 : decode cX6_choose 75 = .ok (.aload_n 0, 1) := by decide +kernel
theorem dX6_choose_76 : decode cX6_choose 76 = .ok (.getfield 22, 3) := by decide +kernel
theorem dX6_choose_79 : decode cX6_choose 79 = .ok (.iload_n 2, 1) := by decide +kernel
theorem dX6_choose_80 : decode cX6_choose 80 = .ok (.iload 4, 2) := by decide +kernel
theorem dX6_choose_82 : decode cX6_choose 82 = .ok (.iastore, 1) := by decide +kernel
theorem dX6_choose_83 : decode cX6_choose 83 = .ok (.iinc 4 1, 3) := by decide +kernel
theorem dX6_choose_86 : decode cX6_choose 86 = .ok (.goto (-53), 3) := by decide +kernel
theorem dX6_choose_89 : decode cX6_choose 89 = .ok (.aload_n 0, 1) := by decide +kernel
theorem dX6_choose_90 : decode cX6_choose 90 = .ok (.getfield 22, 3) := by decide +kernel
theorem dX6_choose_93 : decode cX6_choose 93 = .ok (.iload_n 2, 1) := by decide +kernel
theorem dX6_choose_94 : decode cX6_choose 94 = .ok (.iaload, 1) := by decide +kernel
theorem dX6_choose_95 : decode cX6_choose 95 = .ok (.iconst (-1), 1) := by decide +kernel
theorem dX6_choose_96 : decode cX6_choose 96 = .ok (.if_icmp .eq 14, 3) := by decide +kernel
theorem dX6_choose_99 : decode cX6_choose 99 = .ok (.iload_n 1, 1) := by decide +kernel
theorem dX6_choose_100 : decode cX6_choose 100 = .ok (.iconst 1, 1) := by decide +kernel
theorem dX6_choose_101 : decode cX6_choose 101 = .ok (.aload_n 0, 1) := by decide +kernel
theorem dX6_choose_102 : decode cX6_choose 102 = .ok (.getfield 22, 3) := by decide +kernel
theorem dX6_choose_105 : decode cX6_choose 105 = .ok (.iload_n 2, 1) := by decide +kernel
theorem dX6_choose_106 : decode cX6_choose 106 = .ok (.iaload, 1) := by decide +kernel
theorem dX6_choose_107 : decode cX6_choose 107 = .ok (.ishl, 1) := by decide +kernel
theorem dX6_choose_108 : decode cX6_choose 108 = .ok (.ior, 1) := by decide +kernel
theorem dX6_choose_109 : decode cX6_choose 109 = .ok (.istore_n 1, 1) := by decide +kernel
theorem dX6_choose_110 : decode cX6_choose 110 = .ok (.iinc 2 1, 3) := by decide +kernel
theorem dX6_choose_113 : decode cX6_choose 113 = .ok (.goto (-109), 3) := by decide +kernel
theorem dX6_choose_116 : decode cX6_choose 116 = .ok (.return_, 1) := by decide +kernel
theorem dX6_layTo_0 : decode cX6_layTo 0 = .ok (.aload_n 1, 1) := by decide +kernel
theorem dX6_layTo_1 : decode cX6_layTo 1 = .ok (.invokevirtual 60, 3) := by decide +kernel
theorem dX6_layTo_4 : decode cX6_layTo 4 = .ok (.iconst 0, 1) := by decide +kernel
theorem dX6_layTo_5 : decode cX6_layTo 5 = .ok (.istore_n 2, 1) := by decide +kernel
theorem dX6_layTo_6 : decode cX6_layTo 6 = .ok (.iload_n 2, 1) := by decide +kernel
theorem dX6_layTo_7 : decode cX6_layTo 7 = .ok (.aload_n 0, 1) := by decide +kernel
theorem dX6_layTo_8 : decode cX6_layTo 8 = .ok (.getfield 9, 3) := by decide +kernel
theorem dX6_layTo_11 : decode cX6_layTo 11 = .ok (.if_icmp .ge 19, 3) := by decide +kernel
theorem dX6_layTo_14 : decode cX6_layTo 14 = .ok (.aload_n 1, 1) := by decide +kernel
theorem dX6_layTo_15 : decode cX6_layTo 15 = .ok (.aload_n 0, 1) := by decide +kernel
theorem dX6_layTo_16 : decode cX6_layTo 16 = .ok (.getfield 22, 3) := by decide +kernel
theorem dX6_layTo_19 : decode cX6_layTo 19 = .ok (.iload_n 2, 1) := by decide +kernel
theorem dX6_layTo_20 : decode cX6_layTo 20 = .ok (.iaload, 1) := by decide +kernel
theorem dX6_layTo_21 : decode cX6_layTo 21 = .ok (.invokevirtual 65, 3) := by decide +kernel
theorem dX6_layTo_24 : decode cX6_layTo 24 = .ok (.iinc 2 1, 3) := by decide +kernel
theorem dX6_layTo_27 : decode cX6_layTo 27 = .ok (.goto (-21), 3) := by decide +kernel
theorem dX6_layTo_30 : decode cX6_layTo 30 = .ok (.return_, 1) := by decide +kernel
theorem dX6_pairs_0 : decode cX6_pairs 0 = .ok (.iconst 0, 1) := by decide +kernel
theorem dX6_pairs_1 : decode cX6_pairs 1 = .ok (.istore_n 1, 1) := by decide +kernel
theorem dX6_pairs_2 : decode cX6_pairs 2 = .ok (.iconst 0, 1) := by decide +kernel
theorem dX6_pairs_3 : decode cX6_pairs 3 = .ok (.istore_n 2, 1) := by decide +kernel
theorem dX6_pairs_4 : decode cX6_pairs 4 = .ok (.iload_n 2, 1) := by decide +kernel
theorem dX6_pairs_5 : decode cX6_pairs 5 = .ok (.aload_n 0, 1) := by decide +kernel
theorem dX6_pairs_6 : decode cX6_pairs 6 = .ok (.getfield 9, 3) := by decide +kernel
theorem dX6_pairs_9 : decode cX6_pairs 9 = .ok (.if_icmp .ge 22, 3) := by decide +kernel
theorem dX6_pairs_12 : decode cX6_pairs 12 = .ok (.aload_n 0, 1) := by decide +kernel
theorem dX6_pairs_13 : decode cX6_pairs 13 = .ok (.getfield 22, 3) := by decide +kernel
theorem dX6_pairs_16 : decode cX6_pairs 16 = .ok (.iload_n 2, 1) := by decide +kernel
theorem dX6_pairs_17 : decode cX6_pairs 17 = .ok (.iaload, 1) := by decide +kernel
theorem dX6_pairs_18 : decode cX6_pairs 18 = .ok (.iconst (-1), 1) := by decide +kernel
theorem dX6_pairs_19 : decode cX6_pairs 19 = .ok (.if_icmp .eq 6, 3) := by decide +kernel
theorem dX6_pairs_22 : decode cX6_pairs 22 = .ok (.iinc 1 1, 3) := by decide +kernel
theorem dX6_pairs_25 : decode cX6_pairs 25 = .ok (.iinc 2 1, 3) := by decide +kernel
theorem dX6_pairs_28 : decode cX6_pairs 28 = .ok (.goto (-24), 3) := by decide +kernel
theorem dX6_pairs_31 : decode cX6_pairs 31 = .ok (.iload_n 1, 1) := by decide +kernel
theorem dX6_pairs_32 : decode cX6_pairs 32 = .ok (.ireturn, 1) := by decide +kernel
theorem dX6_storeys_0 : decode cX6_storeys 0 = .ok (.iconst 0, 1) := by decide +kernel
theorem dX6_storeys_1 : decode cX6_storeys 1 = .ok (.istore_n 1, 1) := by decide +kernel
theorem dX6_storeys_2 : decode cX6_storeys 2 = .ok (.iconst 0, 1) := by decide +kernel
theorem dX6_storeys_3 : decode cX6_storeys 3 = .ok (.istore_n 2, 1) := by decide +kernel
theorem dX6_storeys_4 : decode cX6_storeys 4 = .ok (.iload_n 2, 1) := by decide +kernel
theorem dX6_storeys_5 : decode cX6_storeys 5 = .ok (.aload_n 0, 1) := by decide +kernel
theorem dX6_storeys_6 : decode cX6_storeys 6 = .ok (.getfield 9, 3) := by decide +kernel
theorem dX6_storeys_9 : decode cX6_storeys 9 = .ok (.if_icmp .ge 28, 3) := by decide +kernel
theorem dX6_storeys_12 : decode cX6_storeys 12 = .ok (.aload_n 0, 1) := by decide +kernel
theorem dX6_storeys_13 : decode cX6_storeys 13 = .ok (.getfield 22, 3) := by decide +kernel
theorem dX6_storeys_16 : decode cX6_storeys 16 = .ok (.iload_n 2, 1) := by decide +kernel
theorem dX6_storeys_17 : decode cX6_storeys 17 = .ok (.iaload, 1) := by decide +kernel
theorem dX6_storeys_18 : decode cX6_storeys 18 = .ok (.iconst (-1), 1) := by decide +kernel
theorem dX6_storeys_19 : decode cX6_storeys 19 = .ok (.if_icmp .eq 12, 3) := by decide +kernel
theorem dX6_storeys_22 : decode cX6_storeys 22 = .ok (.iload_n 1, 1) := by decide +kernel
theorem dX6_storeys_23 : decode cX6_storeys 23 = .ok (.aload_n 0, 1) := by decide +kernel
theorem dX6_storeys_24 : decode cX6_storeys 24 = .ok (.getfield 19, 3) := by decide +kernel
theorem dX6_storeys_27 : decode cX6_storeys 27 = .ok (.iload_n 2, 1) := by decide +kernel
theorem dX6_storeys_28 : decode cX6_storeys 28 = .ok (.iaload, 1) := by decide +kernel
theorem dX6_storeys_29 : decode cX6_storeys 29 = .ok (.iadd, 1) := by decide +kernel
theorem dX6_storeys_30 : decode cX6_storeys 30 = .ok (.istore_n 1, 1) := by decide +kernel
theorem dX6_storeys_31 : decode cX6_storeys 31 = .ok (.iinc 2 1, 3) := by decide +kernel
theorem dX6_storeys_34 : decode cX6_storeys 34 = .ok (.goto (-30), 3) := by decide +kernel
theorem dX6_storeys_37 : decode cX6_storeys 37 = .ok (.iload_n 1, 1) := by decide +kernel
theorem dX6_storeys_38 : decode cX6_storeys 38 = .ok (.ireturn, 1) := by decide +kernel
theorem dX7_init_0 : decode cX7_init 0 = .ok (.aload_n 0, 1) := by decide +kernel
theorem dX7_init_1 : decode cX7_init 1 = .ok (.invokespecial 3, 3) := by decide +kernel
theorem dX7_init_4 : decode cX7_init 4 = .ok (.aload_n 0, 1) := by decide +kernel
theorem dX7_init_5 : decode cX7_init 5 = .ok (.iconst 0, 1) := by decide +kernel
theorem dX7_init_6 : decode cX7_init 6 = .ok (.putfield 9, 3) := by decide +kernel
theorem dX7_init_9 : decode cX7_init 9 = .ok (.aload_n 0, 1) := by decide +kernel
theorem dX7_init_10 : decode cX7_init 10 = .ok (.iconst 0, 1) := by decide +kernel
theorem dX7_init_11 : decode cX7_init 11 = .ok (.putfield 15, 3) := by decide +kernel
theorem dX7_init_14 : decode cX7_init 14 = .ok (.aload_n 0, 1) := by decide +kernel
theorem dX7_init_15 : decode cX7_init 15 = .ok (.sipush 861, 3) := by decide +kernel
theorem dX7_init_18 : decode cX7_init 18 = .ok (.newarray .int, 2) := by decide +kernel
theorem dX7_init_20 : decode cX7_init 20 = .ok (.putfield 18, 3) := by decide +kernel
theorem dX7_init_23 : decode cX7_init 23 = .ok (.aload_n 0, 1) := by decide +kernel
theorem dX7_init_24 : decode cX7_init 24 = .ok (.sipush 205, 3) := by decide +kernel
theorem dX7_init_27 : decode cX7_init 27 = .ok (.newarray .int, 2) := by decide +kernel
theorem dX7_init_29 : decode cX7_init 29 = .ok (.putfield 22, 3) := by decide +kernel
theorem dX7_init_32 : decode cX7_init 32 = .ok (.return_, 1) := by decide +kernel
theorem dX7_prepare_0 : decode cX7_prepare 0 = .ok (.aload_n 0, 1) := by decide +kernel
theorem dX7_prepare_1 : decode cX7_prepare 1 = .ok (.aload_n 1, 1) := by decide +kernel
theorem dX7_prepare_2 : decode cX7_prepare 2 = .ok (.iload_n 3, 1) := by decide +kernel
theorem dX7_prepare_3 : decode cX7_prepare 3 = .ok (.invokevirtual 25, 3) := by decide +kernel
theorem dX7_prepare_6 : decode cX7_prepare 6 = .ok (.ifCond .eq 21, 3) := by decide +kernel
theorem dX7_prepare_9 : decode cX7_prepare 9 = .ok (.iconst 0, 1) := by decide +kernel
theorem dX7_prepare_10 : decode cX7_prepare 10 = .ok (.bipush 40, 2) := by decide +kernel
theorem dX7_prepare_12 : decode cX7_prepare 12 = .ok (.aload_n 2, 1) := by decide +kernel
theorem dX7_prepare_13 : decode cX7_prepare 13 = .ok (.getfield 31, 3) := by decide +kernel
theorem dX7_prepare_16 : decode cX7_prepare 16 = .ok (.iload_n 3, 1) := by decide +kernel
theorem dX7_prepare_17 : decode cX7_prepare 17 = .ok (.iaload, 1) := by decide +kernel
theorem dX7_prepare_18 : decode cX7_prepare 18 = .ok (.invokestatic 35, 3) := by decide +kernel
theorem dX7_prepare_21 : decode cX7_prepare 21 = .ok (.invokestatic 41, 3) := by decide +kernel
theorem dX7_prepare_24 : decode cX7_prepare 24 = .ok (.goto 4, 3) := by decide +kernel
theorem dX7_prepare_27 : decode cX7_prepare 27 = .ok (.iconst 0, 1) := by decide +kernel
theorem dX7_prepare_28 : decode cX7_prepare 28 = .ok (.putfield 9, 3) := by decide +kernel
theorem dX7_prepare_31 : decode cX7_prepare 31 = .ok (.aload_n 0, 1) := by decide +kernel
theorem dX7_prepare_32 : decode cX7_prepare 32 = .ok (.bipush 20, 2) := by decide +kernel
theorem dX7_prepare_34 : decode cX7_prepare 34 = .ok (.aload_n 1, 1) := by decide +kernel
theorem dX7_prepare_35 : decode cX7_prepare 35 = .ok (.getfield 44, 3) := by decide +kernel
theorem dX7_prepare_38 : decode cX7_prepare 38 = .ok (.aload_n 0, 1) := by decide +kernel
theorem dX7_prepare_39 : decode cX7_prepare 39 = .ok (.getfield 9, 3) := by decide +kernel
theorem dX7_prepare_42 : decode cX7_prepare 42 = .ok (.invokestatic 35, 3) := by decide +kernel
theorem dX7_prepare_45 : decode cX7_prepare 45 = .ok (.invokestatic 35, 3) := by decide +kernel
theorem dX7_prepare_48 : decode cX7_prepare 48 = .ok (.putfield 15, 3) := by decide +kernel
theorem dX7_prepare_51 : decode cX7_prepare 51 = .ok (.iconst 0, 1) := by decide +kernel
theorem dX7_prepare_52 : decode cX7_prepare 52 = .ok (.istore 4, 2) := by decide +kernel
theorem dX7_prepare_54 : decode cX7_prepare 54 = .ok (.iload 4, 2) := by decide +kernel
theorem dX7_prepare_56 : decode cX7_prepare 56 = .ok (.aload_n 0, 1) := by decide +kernel
theorem dX7_prepare_57 : decode cX7_prepare 57 = .ok (.getfield 9, 3) := by decide +kernel
theorem dX7_prepare_60 : decode cX7_prepare 60 = .ok (.if_icmp .ge 68, 3) := by decide +kernel
theorem dX7_prepare_63 : decode cX7_prepare 63 = .ok (.iconst 1, 1) := by decide +kernel
theorem dX7_prepare_64 : decode cX7_prepare 64 = .ok (.istore 5, 2) := by decide +kernel
theorem dX7_prepare_66 : decode cX7_prepare 66 = .ok (.iload 5, 2) := by decide +kernel
theorem dX7_prepare_68 : decode cX7_prepare 68 = .ok (.aload_n 0, 1) := by decide +kernel
theorem dX7_prepare_69 : decode cX7_prepare 69 = .ok (.getfield 15, 3) := by decide +kernel
theorem dX7_prepare_72 : decode cX7_prepare 72 = .ok (.if_icmp .gt 50, 3) := by decide +kernel
theorem dX7_prepare_75 : decode cX7_prepare 75 = .ok (.iload 4, 2) := by decide +kernel
theorem dX7_prepare_77 : decode cX7_prepare 77 = .ok (.iload 5, 2) := by decide +kernel
theorem dX7_prepare_79 : decode cX7_prepare 79 = .ok (.iadd, 1) := by decide +kernel
theorem dX7_prepare_80 : decode cX7_prepare 80 = .ok (.aload_n 0, 1) := by decide +kernel
theorem dX7_prepare_81 : decode cX7_prepare 81 = .ok (.getfield 9, 3) := by decide +kernel
theorem dX7_prepare_84 : decode cX7_prepare 84 = .ok (.if_icmp .gt 38, 3) := by decide +kernel
theorem dX7_prepare_87 : decode cX7_prepare 87 = .ok (.aload_n 0, 1) := by decide +kernel
theorem dX7_prepare_88 : decode cX7_prepare 88 = .ok (.getfield 18, 3) := by decide +kernel
theorem dX7_prepare_91 : decode cX7_prepare 91 = .ok (.iload 5, 2) := by decide +kernel
theorem dX7_prepare_93 : decode cX7_prepare 93 = .ok (.bipush 41, 2) := by decide +kernel
theorem dX7_prepare_95 : decode cX7_prepare 95 = .ok (.imul, 1) := by decide +kernel
theorem dX7_prepare_96 : decode cX7_prepare 96 = .ok (.iload 4, 2) := by decide +kernel
theorem dX7_prepare_98 : decode cX7_prepare 98 = .ok (.iadd, 1) := by decide +kernel
theorem dX7_prepare_99 : decode cX7_prepare 99 = .ok (.aload_n 1, 1) := by decide +kernel
theorem dX7_prepare_100 : decode cX7_prepare 100 = .ok (.aload_n 2, 1) := by decide +kernel
theorem dX7_prepare_101 : decode cX7_prepare 101 = .ok (.iload 5, 2) := by decide +kernel
theorem dX7_prepare_103 : decode cX7_prepare 103 = .ok (.iconst 0, 1) := by decide +kernel
theorem dX7_prepare_104 : decode cX7_prepare 104 = .ok (.iconst 0, 1) := by decide +kernel
theorem dX7_prepare_105 : decode cX7_prepare 105 = .ok (.aload_n 2, 1) := by decide +kernel
theorem dX7_prepare_106 : decode cX7_prepare 106 = .ok (.getfield 47, 3) := by decide +kernel
theorem dX7_prepare_109 : decode cX7_prepare 109 = .ok (.iload 4, 2) := by decide +kernel
theorem dX7_prepare_111 : decode cX7_prepare 111 = .ok (.iadd, 1) := by decide +kernel
theorem dX7_prepare_112 : decode cX7_prepare 112 = .ok (.invokevirtual 50, 3) := by decide +kernel
theorem dX7_prepare_115 : decode cX7_prepare 115 = .ok (.iastore, 1) := by decide +kernel
theorem dX7_prepare_116 : decode cX7_prepare 116 = .ok (.iinc 5 1, 3) := by decide +kernel
theorem dX7_prepare_119 : decode cX7_prepare 119 = .ok (.goto (-53), 3) := by decide +kernel
theorem dX7_prepare_122 : decode cX7_prepare 122 = .ok (.iinc 4 1, 3) := by decide +kernel
theorem dX7_prepare_125 : decode cX7_prepare 125 = .ok (.goto (-71), 3) := by decide +kernel
theorem dX7_prepare_128 : decode cX7_prepare 128 = .ok (.iconst 0, 1) := by decide +kernel
theorem dX7_prepare_129 : decode cX7_prepare 129 = .ok (.istore 4, 2) := by decide +kernel
theorem dX7_prepare_131 : decode cX7_prepare 131 = .ok (.iload 4, 2) := by decide +kernel
theorem dX7_prepare_133 : decode cX7_prepare 133 = .ok (.aload_n 0, 1) := by decide +kernel
theorem dX7_prepare_134 : decode cX7_prepare 134 = .ok (.getfield 22, 3) := by decide +kernel
theorem dX7_prepare_137 : decode cX7_prepare 137 = .ok (.arraylength, 1) := by decide +kernel
theorem dX7_prepare_138 : decode cX7_prepare 138 = .ok (.if_icmp .ge 17, 3) := by decide +kernel
theorem dX7_prepare_141 : decode cX7_prepare 141 = .ok (.aload_n 0, 1) := by decide +kernel
theorem dX7_prepare_142 : decode cX7_prepare 142 = .ok (.getfield 22, 3) := by decide +kernel
theorem dX7_prepare_145 : decode cX7_prepare 145 = .ok (.iload 4, 2) := by decide +kernel
theorem dX7_prepare_147 : decode cX7_prepare 147 = .ok (.iconst (-1), 1) := by decide +kernel
theorem dX7_prepare_148 : decode cX7_prepare 148 = .ok (.iastore, 1) := by decide +kernel
theorem dX7_prepare_149 : decode cX7_prepare 149 = .ok (.iinc 4 1, 3) := by decide +kernel
theorem dX7_prepare_152 : decode cX7_prepare 152 = .ok (.goto (-21), 3) := by decide +kernel
theorem dX7_prepare_155 : decode cX7_prepare 155 = .ok (.return_, 1) := by decide +kernel
theorem dX7_mostCounted_0 : decode cX7_mostCounted 0 = .ok (.aload_n 0, 1) := by decide +kernel
theorem dX7_mostCounted_1 : decode cX7_mostCounted 1 = .ok (.aload_n 1, 1) := by decide +kernel
theorem dX7_mostCounted_2 : decode cX7_mostCounted 2 = .ok (.aload_n 2, 1) := by decide +kernel
theorem dX7_mostCounted_3 : decode cX7_mostCounted 3 = .ok (.iload_n 3, 1) := by decide +kernel
theorem dX7_mostCounted_4 : decode cX7_mostCounted 4 = .ok (.invokevirtual 54, 3) := by decide +kernel
theorem dX7_mostCounted_7 : decode cX7_mostCounted 7 = .ok (.aload_n 0, 1) := by decide +kernel
theorem dX7_mostCounted_8 : decode cX7_mostCounted 8 = .ok (.getfield 22, 3) := by decide +kernel
theorem dX7_mostCounted_11 : decode cX7_mostCounted 11 = .ok (.iconst 0, 1) := by decide +kernel
theorem dX7_mostCounted_12 : decode cX7_mostCounted 12 = .ok (.iconst 0, 1) := by decide +kernel
theorem dX7_mostCounted_13 : decode cX7_mostCounted 13 = .ok (.iastore, 1) := by decide +kernel
theorem dX7_mostCounted_14 : decode cX7_mostCounted 14 = .ok (.iconst 0, 1) := by decide +kernel
theorem dX7_mostCounted_15 : decode cX7_mostCounted 15 = .ok (.istore 4, 2) := by decide +kernel
theorem dX7_mostCounted_17 : decode cX7_mostCounted 17 = .ok (.iconst 1, 1) := by decide +kernel
theorem dX7_mostCounted_18 : decode cX7_mostCounted 18 = .ok (.istore 5, 2) := by decide +kernel
theorem dX7_mostCounted_20 : decode cX7_mostCounted 20 = .ok (.iload 5, 2) := by decide +kernel
theorem dX7_mostCounted_22 : decode cX7_mostCounted 22 = .ok (.aload_n 0, 1) := by decide +kernel
theorem dX7_mostCounted_23 : decode cX7_mostCounted 23 = .ok (.getfield 9, 3) := by decide +kernel
theorem dX7_mostCounted_26 : decode cX7_mostCounted 26 = .ok (.if_icmp .gt 37, 3) := by decide +kernel
theorem dX7_mostCounted_29 : decode cX7_mostCounted 29 = .ok (.aload_n 0, 1) := by decide +kernel
theorem dX7_mostCounted_30 : decode cX7_mostCounted 30 = .ok (.getfield 22, 3) := by decide +kernel
theorem dX7_mostCounted_33 : decode cX7_mostCounted 33 = .ok (.iload 5, 2) := by decide +kernel
theorem dX7_mostCounted_35 : decode cX7_mostCounted 35 = .ok (.aload_n 0, 1) := by decide +kernel
theorem dX7_mostCounted_36 : decode cX7_mostCounted 36 = .ok (.iconst 0, 1) := by decide +kernel
theorem dX7_mostCounted_37 : decode cX7_mostCounted 37 = .ok (.iload 5, 2) := by decide +kernel
theorem dX7_mostCounted_39 : decode cX7_mostCounted 39 = .ok (.invokevirtual 58, 3) := by decide +kernel
theorem dX7_mostCounted_42 : decode cX7_mostCounted 42 = .ok (.iastore, 1) := by decide +kernel
theorem dX7_mostCounted_43 : decode cX7_mostCounted 43 = .ok (.iload 4, 2) := by decide +kernel
theorem dX7_mostCounted_45 : decode cX7_mostCounted 45 = .ok (.aload_n 0, 1) := by decide +kernel
theorem dX7_mostCounted_46 : decode cX7_mostCounted 46 = .ok (.getfield 22, 3) := by decide +kernel
theorem dX7_mostCounted_49 : decode cX7_mostCounted 49 = .ok (.iload 5, 2) := by decide +kernel
theorem dX7_mostCounted_51 : decode cX7_mostCounted 51 = .ok (.iaload, 1) := by decide +kernel
theorem dX7_mostCounted_52 : decode cX7_mostCounted 52 = .ok (.invokestatic 41, 3) := by decide +kernel
theorem dX7_mostCounted_55 : decode cX7_mostCounted 55 = .ok (.istore 4, 2) := by decide +kernel
theorem dX7_mostCounted_57 : decode cX7_mostCounted 57 = .ok (.iinc 5 1, 3) := by decide +kernel
theorem dX7_mostCounted_60 : decode cX7_mostCounted 60 = .ok (.goto (-40), 3) := by decide +kernel
theorem dX7_mostCounted_63 : decode cX7_mostCounted 63 = .ok (.iload 4, 2) := by decide +kernel
theorem dX7_mostCounted_65 : decode cX7_mostCounted 65 = .ok (.ireturn, 1) := by decide +kernel
theorem dX7_mostOfLast_0 : decode cX7_mostOfLast 0 = .ok (.iconst (-1), 1) := by decide +kernel
theorem dX7_mostOfLast_1 : decode cX7_mostOfLast 1 = .ok (.istore_n 3, 1) := by decide +kernel
theorem dX7_mostOfLast_2 : decode cX7_mostOfLast 2 = .ok (.iconst 1, 1) := by decide +kernel
theorem dX7_mostOfLast_3 : decode cX7_mostOfLast 3 = .ok (.istore 4, 2) := by decide +kernel
theorem dX7_mostOfLast_5 : decode cX7_mostOfLast 5 = .ok (.iload 4, 2) := by decide +kernel
theorem dX7_mostOfLast_7 : decode cX7_mostOfLast 7 = .ok (.aload_n 0, 1) := by decide +kernel
theorem dX7_mostOfLast_8 : decode cX7_mostOfLast 8 = .ok (.getfield 15, 3) := by decide +kernel
theorem dX7_mostOfLast_11 : decode cX7_mostOfLast 11 = .ok (.if_icmp .gt 60, 3) := by decide +kernel
theorem dX7_mostOfLast_14 : decode cX7_mostOfLast 14 = .ok (.iload 4, 2) := by decide +kernel
theorem dX7_mostOfLast_16 : decode cX7_mostOfLast 16 = .ok (.iload_n 2, 1) := by decide +kernel
theorem dX7_mostOfLast_17 : decode cX7_mostOfLast 17 = .ok (.if_icmp .gt 54, 3) := by decide +kernel
theorem dX7_mostOfLast_20 : decode cX7_mostOfLast 20 = .ok (.aload_n 0, 1) := by decide +kernel
theorem dX7_mostOfLast_21 : decode cX7_mostOfLast 21 = .ok (.getfield 22, 3) := by decide +kernel
theorem dX7_mostOfLast_24 : decode cX7_mostOfLast 24 = .ok (.iload_n 1, 1) := by decide +kernel
theorem dX7_mostOfLast_25 : decode cX7_mostOfLast 25 = .ok (.bipush 41, 2) := by decide +kernel
theorem dX7_mostOfLast_27 : decode cX7_mostOfLast 27 = .ok (.imul, 1) := by decide +kernel
theorem dX7_mostOfLast_28 : decode cX7_mostOfLast 28 = .ok (.iload_n 2, 1) := by decide +kernel
theorem dX7_mostOfLast_29 : decode cX7_mostOfLast 29 = .ok (.iadd, 1) := by decide +kernel
theorem dX7_mostOfLast_30 : decode cX7_mostOfLast 30 = .ok (.iload 4, 2) := by decide +kernel
theorem dX7_mostOfLast_32 : decode cX7_mostOfLast 32 = .ok (.isub, 1) := by decide +kernel
theorem dX7_mostOfLast_33 : decode cX7_mostOfLast 33 = .ok (.iaload, 1) := by decide +kernel
theorem dX7_mostOfLast_34 : decode cX7_mostOfLast 34 = .ok (.istore 5, 2) := by decide +kernel
theorem dX7_mostOfLast_36 : decode cX7_mostOfLast 36 = .ok (.iload 5, 2) := by decide +kernel
theorem dX7_mostOfLast_38 : decode cX7_mostOfLast 38 = .ok (.iconst (-1), 1) := by decide +kernel
theorem dX7_mostOfLast_39 : decode cX7_mostOfLast 39 = .ok (.if_icmp .eq 26, 3) := by decide +kernel
theorem dX7_mostOfLast_42 : decode cX7_mostOfLast 42 = .ok (.iload_n 3, 1) := by decide +kernel
theorem dX7_mostOfLast_43 : decode cX7_mostOfLast 43 = .ok (.iload 5, 2) := by decide +kernel
theorem dX7_mostOfLast_45 : decode cX7_mostOfLast 45 = .ok (.aload_n 0, 1) := by decide +kernel
theorem dX7_mostOfLast_46 : decode cX7_mostOfLast 46 = .ok (.getfield 18, 3) := by decide +kernel
theorem dX7_mostOfLast_49 : decode cX7_mostOfLast 49 = .ok (.iload 4, 2) := by decide +kernel
theorem dX7_mostOfLast_51 : decode cX7_mostOfLast 51 = .ok (.bipush 41, 2) := by decide +kernel
theorem dX7_mostOfLast_53 : decode cX7_mostOfLast 53 = .ok (.imul, 1) := by decide +kernel
theorem dX7_mostOfLast_54 : decode cX7_mostOfLast 54 = .ok (.iload_n 2, 1) := by decide +kernel
theorem dX7_mostOfLast_55 : decode cX7_mostOfLast 55 = .ok (.iadd, 1) := by decide +kernel
theorem dX7_mostOfLast_56 : decode cX7_mostOfLast 56 = .ok (.iload 4, 2) := by decide +kernel
theorem dX7_mostOfLast_58 : decode cX7_mostOfLast 58 = .ok (.isub, 1) := by decide +kernel
theorem dX7_mostOfLast_59 : decode cX7_mostOfLast 59 = .ok (.iaload, 1) := by decide +kernel
theorem dX7_mostOfLast_60 : decode cX7_mostOfLast 60 = .ok (.iadd, 1) := by decide +kernel
theorem dX7_mostOfLast_61 : decode cX7_mostOfLast 61 = .ok (.invokestatic 41, 3) := by decide +kernel
theorem dX7_mostOfLast_64 : decode cX7_mostOfLast 64 = .ok (.istore_n 3, 1) := by decide +kernel
theorem dX7_mostOfLast_65 : decode cX7_mostOfLast 65 = .ok (.iinc 4 1, 3) := by decide +kernel
theorem dX7_mostOfLast_68 : decode cX7_mostOfLast 68 = .ok (.goto (-63), 3) := by decide +kernel
theorem dX7_mostOfLast_71 : decode cX7_mostOfLast 71 = .ok (.iload_n 3, 1) := by decide +kernel
theorem dX7_mostOfLast_72 : decode cX7_mostOfLast 72 = .ok (.ireturn, 1) := by decide +kernel
theorem dX7_fewestClimbs_0 : decode cX7_fewestClimbs 0 = .ok (.aload_n 1, 1) := by decide +kernel
theorem dX7_fewestClimbs_1 : decode cX7_fewestClimbs 1 = .ok (.aload_n 2, 1) := by decide +kernel
theorem dX7_fewestClimbs_2 : decode cX7_fewestClimbs 2 = .ok (.iload_n 3, 1) := by decide +kernel
theorem dX7_fewestClimbs_3 : decode cX7_fewestClimbs 3 = .ok (.invokevirtual 61, 3) := by decide +kernel
theorem dX7_fewestClimbs_6 : decode cX7_fewestClimbs 6 = .ok (.istore 5, 2) := by decide +kernel
theorem dX7_fewestClimbs_8 : decode cX7_fewestClimbs 8 = .ok (.iload 5, 2) := by decide +kernel
theorem dX7_fewestClimbs_10 : decode cX7_fewestClimbs 10 = .ok (.ifCond .ne 5, 3) := by decide +kernel
theorem dX7_fewestClimbs_13 : decode cX7_fewestClimbs 13 = .ok (.iconst 0, 1) := by decide +kernel
theorem dX7_fewestClimbs_14 : decode cX7_fewestClimbs 14 = .ok (.ireturn, 1) := by decide +kernel
theorem dX7_fewestClimbs_15 : decode cX7_fewestClimbs 15 = .ok (.aload_n 2, 1) := by decide +kernel
theorem dX7_fewestClimbs_16 : decode cX7_fewestClimbs 16 = .ok (.getfield 65, 3) := by decide +kernel
theorem dX7_fewestClimbs_19 : decode cX7_fewestClimbs 19 = .ok (.iload_n 3, 1) := by decide +kernel
theorem dX7_fewestClimbs_20 : decode cX7_fewestClimbs 20 = .ok (.iaload, 1) := by decide +kernel
theorem dX7_fewestClimbs_21 : decode cX7_fewestClimbs 21 = .ok (.iload 5, 2) := by decide +kernel
theorem dX7_fewestClimbs_23 : decode cX7_fewestClimbs 23 = .ok (.iadd, 1) := by decide +kernel
theorem dX7_fewestClimbs_24 : decode cX7_fewestClimbs 24 = .ok (.sipush 9999, 3) := by decide +kernel
theorem dX7_fewestClimbs_27 : decode cX7_fewestClimbs 27 = .ok (.if_icmp .le 5, 3) := by decide +kernel
theorem dX7_fewestClimbs_30 : decode cX7_fewestClimbs 30 = .ok (.iconst (-1), 1) := by decide +kernel
theorem dX7_fewestClimbs_31 : decode cX7_fewestClimbs 31 = .ok (.ireturn, 1) := by decide +kernel
theorem dX7_fewestClimbs_32 : decode cX7_fewestClimbs 32 = .ok (.aload_n 0, 1) := by decide +kernel
theorem dX7_fewestClimbs_33 : decode cX7_fewestClimbs 33 = .ok (.aload_n 1, 1) := by decide +kernel
theorem dX7_fewestClimbs_34 : decode cX7_fewestClimbs 34 = .ok (.aload_n 2, 1) := by decide +kernel
theorem dX7_fewestClimbs_35 : decode cX7_fewestClimbs 35 = .ok (.iload_n 3, 1) := by decide +kernel
theorem dX7_fewestClimbs_36 : decode cX7_fewestClimbs 36 = .ok (.invokevirtual 54, 3) := by decide +kernel
theorem dX7_fewestClimbs_39 : decode cX7_fewestClimbs 39 = .ok (.aload_n 0, 1) := by decide +kernel
theorem dX7_fewestClimbs_40 : decode cX7_fewestClimbs 40 = .ok (.getfield 22, 3) := by decide +kernel
theorem dX7_fewestClimbs_43 : decode cX7_fewestClimbs 43 = .ok (.iconst 0, 1) := by decide +kernel
theorem dX7_fewestClimbs_44 : decode cX7_fewestClimbs 44 = .ok (.iconst 0, 1) := by decide +kernel
theorem dX7_fewestClimbs_45 : decode cX7_fewestClimbs 45 = .ok (.iastore, 1) := by decide +kernel
theorem dX7_fewestClimbs_46 : decode cX7_fewestClimbs 46 = .ok (.iconst 1, 1) := by decide +kernel
theorem dX7_fewestClimbs_47 : decode cX7_fewestClimbs 47 = .ok (.istore 6, 2) := by decide +kernel
theorem dX7_fewestClimbs_49 : decode cX7_fewestClimbs 49 = .ok (.iload 6, 2) := by decide +kernel
theorem dX7_fewestClimbs_51 : decode cX7_fewestClimbs 51 = .ok (.iconst 4, 1) := by decide +kernel
theorem dX7_fewestClimbs_52 : decode cX7_fewestClimbs 52 = .ok (.if_icmp .gt 84, 3) := by decide +kernel
theorem dX7_fewestClimbs_55 : decode cX7_fewestClimbs 55 = .ok (.iload 6, 2) := by decide +kernel
theorem dX7_fewestClimbs_57 : decode cX7_fewestClimbs 57 = .ok (.istore 7, 2) := by decide +kernel
theorem dX7_fewestClimbs_59 : decode cX7_fewestClimbs 59 = .ok (.iload 7, 2) := by decide +kernel
theorem dX7_fewestClimbs_61 : decode cX7_fewestClimbs 61 = .ok (.aload_n 0, 1) := by decide +kernel
theorem dX7_fewestClimbs_62 : decode cX7_fewestClimbs 62 = .ok (.getfield 9, 3) := by decide +kernel
theorem dX7_fewestClimbs_65 : decode cX7_fewestClimbs 65 = .ok (.if_icmp .gt 65, 3) := by decide +kernel
theorem dX7_fewestClimbs_68 : decode cX7_fewestClimbs 68 = .ok (.aload_n 0, 1) := by decide +kernel
theorem dX7_fewestClimbs_69 : decode cX7_fewestClimbs 69 = .ok (.getfield 22, 3) := by decide +kernel
theorem dX7_fewestClimbs_72 : decode cX7_fewestClimbs 72 = .ok (.iload 6, 2) := by decide +kernel
theorem dX7_fewestClimbs_74 : decode cX7_fewestClimbs 74 = .ok (.bipush 41, 2) := by decide +kernel
theorem dX7_fewestClimbs_76 : decode cX7_fewestClimbs 76 = .ok (.imul, 1) := by decide +kernel
theorem dX7_fewestClimbs_77 : decode cX7_fewestClimbs 77 = .ok (.iload 7, 2) := by decide +kernel
theorem dX7_fewestClimbs_79 : decode cX7_fewestClimbs 79 = .ok (.iadd, 1) := by decide +kernel
theorem dX7_fewestClimbs_80 : decode cX7_fewestClimbs 80 = .ok (.aload_n 0, 1) := by decide +kernel
theorem dX7_fewestClimbs_81 : decode cX7_fewestClimbs 81 = .ok (.iload 6, 2) := by decide +kernel
theorem dX7_fewestClimbs_83 : decode cX7_fewestClimbs 83 = .ok (.iconst 1, 1) := by decide +kernel
theorem dX7_fewestClimbs_84 : decode cX7_fewestClimbs 84 = .ok (.isub, 1) := by decide +kernel
theorem dX7_fewestClimbs_85 : decode cX7_fewestClimbs 85 = .ok (.iload 7, 2) := by decide +kernel
theorem dX7_fewestClimbs_87 : decode cX7_fewestClimbs 87 = .ok (.invokevirtual 58, 3) := by decide +kernel
theorem dX7_fewestClimbs_90 : decode cX7_fewestClimbs 90 = .ok (.iastore, 1) := by decide +kernel
theorem dX7_fewestClimbs_91 : decode cX7_fewestClimbs 91 = .ok (.aload_n 0, 1) := by decide +kernel
theorem dX7_fewestClimbs_92 : decode cX7_fewestClimbs 92 = .ok (.getfield 22, 3) := by decide +kernel
theorem dX7_fewestClimbs_95 : decode cX7_fewestClimbs 95 = .ok (.iload 6, 2) := by decide +kernel
theorem dX7_fewestClimbs_97 : decode cX7_fewestClimbs 97 = .ok (.bipush 41, 2) := by decide +kernel
theorem dX7_fewestClimbs_99 : decode cX7_fewestClimbs 99 = .ok (.imul, 1) := by decide +kernel
theorem dX7_fewestClimbs_100 : decode cX7_fewestClimbs 100 = .ok (.iload 7, 2) := by decide +kernel
theorem dX7_fewestClimbs_102 : decode cX7_fewestClimbs 102 = .ok (.iadd, 1) := by decide +kernel
theorem dX7_fewestClimbs_103 : decode cX7_fewestClimbs 103 = .ok (.iaload, 1) := by decide +kernel
theorem dX7_fewestClimbs_104 : decode cX7_fewestClimbs 104 = .ok (.iload 5, 2) := by decide +kernel
theorem dX7_fewestClimbs_106 : decode cX7_fewestClimbs 106 = .ok (.if_icmp .lt 18, 3) := by decide +kernel
theorem dX7_fewestClimbs_109 : decode cX7_fewestClimbs 109 = .ok (.aload_n 0, 1) := by decide +kernel
theorem dX7_fewestClimbs_110 : decode cX7_fewestClimbs 110 = .ok (.iload 6, 2) := by decide +kernel
theorem dX7_fewestClimbs_112 : decode cX7_fewestClimbs 112 = .ok (.iload 7, 2) := by decide +kernel
theorem dX7_fewestClimbs_114 : decode cX7_fewestClimbs 114 = .ok (.iload 5, 2) := by decide +kernel
theorem dX7_fewestClimbs_116 : decode cX7_fewestClimbs 116 = .ok (.aload 4, 2) := by decide +kernel
theorem dX7_fewestClimbs_118 : decode cX7_fewestClimbs 118 = .ok (.invokevirtual 68, 3) := by decide +kernel
theorem dX7_fewestClimbs_121 : decode cX7_fewestClimbs 121 = .ok (.iload 6, 2) := by decide +kernel
theorem dX7_fewestClimbs_123 : decode cX7_fewestClimbs 123 = .ok (.ireturn, 1) := by decide +kernel
theorem dX7_fewestClimbs_124 : decode cX7_fewestClimbs 124 = .ok (.iinc 7 1, 3) := by decide +kernel
theorem dX7_fewestClimbs_127 : decode cX7_fewestClimbs 127 = .ok (.goto (-68), 3) := by decide +kernel
theorem dX7_fewestClimbs_130 : decode cX7_fewestClimbs 130 = .ok (.iinc 6 1, 3) := by decide +kernel
theorem dX7_fewestClimbs_133 : decode cX7_fewestClimbs 133 = .ok (.goto (-84), 3) := by decide +kernel
theorem dX7_fewestClimbs_136 : decode cX7_fewestClimbs 136 = .ok (.iconst (-1), 1) := by decide +kernel
theorem dX7_fewestClimbs_137 : decode cX7_fewestClimbs 137 = .ok (.ireturn, 1) := by decide +kernel
theorem dX7_layFirstRow_0 : decode cX7_layFirstRow 0 = .ok (.aload_n 0, 1) := by decide +kernel
theorem dX7_layFirstRow_1 : decode cX7_layFirstRow 1 = .ok (.iload_n 1, 1) := by decide +kernel
theorem dX7_layFirstRow_2 : decode cX7_layFirstRow 2 = .ok (.iload_n 2, 1) := by decide +kernel
theorem dX7_layFirstRow_3 : decode cX7_layFirstRow 3 = .ok (.invokevirtual 72, 3) := by decide +kernel
theorem dX7_layFirstRow_6 : decode cX7_layFirstRow 6 = .ok (.iconst 0, 1) := by decide +kernel
theorem dX7_layFirstRow_7 : decode cX7_layFirstRow 7 = .ok (.istore 5, 2) := by decide +kernel
theorem dX7_layFirstRow_9 : decode cX7_layFirstRow 9 = .ok (.iload_n 3, 1) := by decide +kernel
theorem dX7_layFirstRow_10 : decode cX7_layFirstRow 10 = .ok (.istore 6, 2) := by decide +kernel
theorem dX7_layFirstRow_12 : decode cX7_layFirstRow 12 = .ok (.iload_n 1, 1) := by decide +kernel
theorem dX7_layFirstRow_13 : decode cX7_layFirstRow 13 = .ok (.iconst 1, 1) := by decide +kernel
theorem dX7_layFirstRow_14 : decode cX7_layFirstRow 14 = .ok (.isub, 1) := by decide +kernel
theorem dX7_layFirstRow_15 : decode cX7_layFirstRow 15 = .ok (.istore 7, 2) := by decide +kernel
theorem dX7_layFirstRow_17 : decode cX7_layFirstRow 17 = .ok (.iload 7, 2) := by decide +kernel
theorem dX7_layFirstRow_19 : decode cX7_layFirstRow 19 = .ok (.ifCond .lt 61, 3) := by decide +kernel
theorem dX7_layFirstRow_22 : decode cX7_layFirstRow 22 = .ok (.aload_n 0, 1) := by decide +kernel
theorem dX7_layFirstRow_23 : decode cX7_layFirstRow 23 = .ok (.iload 7, 2) := by decide +kernel
theorem dX7_layFirstRow_25 : decode cX7_layFirstRow 25 = .ok (.iload 5, 2) := by decide +kernel
theorem dX7_layFirstRow_27 : decode cX7_layFirstRow 27 = .ok (.iload_n 2, 1) := by decide +kernel
theorem dX7_layFirstRow_28 : decode cX7_layFirstRow 28 = .ok (.iload 6, 2) := by decide +kernel
theorem dX7_layFirstRow_30 : decode cX7_layFirstRow 30 = .ok (.invokevirtual 76, 3) := by decide +kernel
theorem dX7_layFirstRow_33 : decode cX7_layFirstRow 33 = .ok (.istore 8, 2) := by decide +kernel
theorem dX7_layFirstRow_35 : decode cX7_layFirstRow 35 = .ok (.iload 8, 2) := by decide +kernel
theorem dX7_layFirstRow_37 : decode cX7_layFirstRow 37 = .ok (.iconst (-1), 1) := by decide +kernel
theorem dX7_layFirstRow_38 : decode cX7_layFirstRow 38 = .ok (.if_icmp .ne 4, 3) := by decide +kernel
theorem dX7_layFirstRow_41 : decode cX7_layFirstRow 41 = .ok (.return_, 1) := by decide +kernel
theorem dX7_layFirstRow_42 : decode cX7_layFirstRow 42 = .ok (.aload 4, 2) := by decide +kernel
theorem dX7_layFirstRow_44 : decode cX7_layFirstRow 44 = .ok (.iload 8, 2) := by decide +kernel
theorem dX7_layFirstRow_46 : decode cX7_layFirstRow 46 = .ok (.invokevirtual 80, 3) := by decide +kernel
theorem dX7_layFirstRow_49 : decode cX7_layFirstRow 49 = .ok (.iload 6, 2) := by decide +kernel
theorem dX7_layFirstRow_51 : decode cX7_layFirstRow 51 = .ok (.aload_n 0, 1) := by decide +kernel
theorem dX7_layFirstRow_52 : decode cX7_layFirstRow 52 = .ok (.getfield 18, 3) := by decide +kernel
theorem dX7_layFirstRow_55 : decode cX7_layFirstRow 55 = .ok (.iload 8, 2) := by decide +kernel
theorem dX7_layFirstRow_57 : decode cX7_layFirstRow 57 = .ok (.bipush 41, 2) := by decide +kernel
theorem dX7_layFirstRow_59 : decode cX7_layFirstRow 59 = .ok (.imul, 1) := by decide +kernel
theorem dX7_layFirstRow_60 : decode cX7_layFirstRow 60 = .ok (.iload 5, 2) := by decide +kernel
theorem dX7_layFirstRow_62 : decode cX7_layFirstRow 62 = .ok (.iadd, 1) := by decide +kernel
theorem dX7_layFirstRow_63 : decode cX7_layFirstRow 63 = .ok (.iaload, 1) := by decide +kernel
theorem dX7_layFirstRow_64 : decode cX7_layFirstRow 64 = .ok (.isub, 1) := by decide +kernel
theorem dX7_layFirstRow_65 : decode cX7_layFirstRow 65 = .ok (.istore 6, 2) := by decide +kernel
theorem dX7_layFirstRow_67 : decode cX7_layFirstRow 67 = .ok (.iload 5, 2) := by decide +kernel
theorem dX7_layFirstRow_69 : decode cX7_layFirstRow 69 = .ok (.iload 8, 2) := by decide +kernel
theorem dX7_layFirstRow_71 : decode cX7_layFirstRow 71 = .ok (.iadd, 1) := by decide +kernel
theorem dX7_layFirstRow_72 : decode cX7_layFirstRow 72 = .ok (.istore 5, 2) := by decide +kernel
theorem dX7_layFirstRow_74 : decode cX7_layFirstRow 74 = .ok (.iinc 7 (-1), 3) := by decide +kernel
theorem dX7_layFirstRow_77 : decode cX7_layFirstRow 77 = .ok (.goto (-60), 3) := by decide +kernel
theorem dX7_layFirstRow_80 : decode cX7_layFirstRow 80 = .ok (.return_, 1) := by decide +kernel
theorem dX7_countBackwards_0 : decode cX7_countBackwards 0 = .ok (.iconst 0, 1) := by decide +kernel
theorem dX7_countBackwards_1 : decode cX7_countBackwards 1 = .ok (.istore_n 3, 1) := by decide +kernel
theorem dX7_countBackwards_2 : decode cX7_countBackwards 2 = .ok (.iload_n 3, 1) := by decide +kernel
theorem dX7_countBackwards_3 : decode cX7_countBackwards 3 = .ok (.aload_n 0, 1) := by decide +kernel
theorem dX7_countBackwards_4 : decode cX7_countBackwards 4 = .ok (.getfield 22, 3) := by decide +kernel
theorem dX7_countBackwards_7 : decode cX7_countBackwards 7 = .ok (.arraylength, 1) := by decide +kernel
theorem dX7_countBackwards_8 : decode cX7_countBackwards 8 = .ok (.if_icmp .ge 16, 3) := by decide +kernel
theorem dX7_countBackwards_11 : decode cX7_countBackwards 11 = .ok (.aload_n 0, 1) := by decide +kernel
theorem dX7_countBackwards_12 : decode cX7_countBackwards 12 = .ok (.getfield 22, 3) := by decide +kernel
theorem dX7_countBackwards_15 : decode cX7_countBackwards 15 = .ok (.iload_n 3, 1) := by decide +kernel
theorem dX7_countBackwards_16 : decode cX7_countBackwards 16 = .ok (.iconst (-1), 1) := by decide +kernel
theorem dX7_countBackwards_17 : decode cX7_countBackwards 17 = .ok (.iastore, 1) := by decide +kernel
theorem dX7_countBackwards_18 : decode cX7_countBackwards 18 = .ok (.iinc 3 1, 3) := by decide +kernel
theorem dX7_countBackwards_21 : decode cX7_countBackwards 21 = .ok (.goto (-19), 3) := by decide +kernel
theorem dX7_countBackwards_24 : decode cX7_countBackwards 24 = .ok (.aload_n 0, 1) := by decide +kernel
theorem dX7_countBackwards_25 : decode cX7_countBackwards 25 = .ok (.getfield 22, 3) := by decide +kernel
theorem dX7_countBackwards_28 : decode cX7_countBackwards 28 = .ok (.iload_n 2, 1) := by decide +kernel
theorem dX7_countBackwards_29 : decode cX7_countBackwards 29 = .ok (.iconst 0, 1) := by decide +kernel
theorem dX7_countBackwards_30 : decode cX7_countBackwards 30 = .ok (.iastore, 1) := by decide +kernel
theorem dX7_countBackwards_31 : decode cX7_countBackwards 31 = .ok (.iconst 1, 1) := by decide +kernel
theorem dX7_countBackwards_32 : decode cX7_countBackwards 32 = .ok (.istore_n 3, 1) := by decide +kernel
theorem dX7_countBackwards_33 : decode cX7_countBackwards 33 = .ok (.iload_n 3, 1) := by decide +kernel
theorem dX7_countBackwards_34 : decode cX7_countBackwards 34 = .ok (.iload_n 1, 1) := by decide +kernel
theorem dX7_countBackwards_35 : decode cX7_countBackwards 35 = .ok (.if_icmp .ge 46, 3) := by decide +kernel
theorem dX7_countBackwards_38 : decode cX7_countBackwards 38 = .ok (.iconst 1, 1) := by decide +kernel
theorem dX7_countBackwards_39 : decode cX7_countBackwards 39 = .ok (.istore 4, 2) := by decide +kernel
theorem dX7_countBackwards_41 : decode cX7_countBackwards 41 = .ok (.iload 4, 2) := by decide +kernel
theorem dX7_countBackwards_43 : decode cX7_countBackwards 43 = .ok (.iload_n 2, 1) := by decide +kernel
theorem dX7_countBackwards_44 : decode cX7_countBackwards 44 = .ok (.if_icmp .ge 31, 3) := by decide +kernel
theorem dX7_countBackwards_47 : decode cX7_countBackwards 47 = .ok (.aload_n 0, 1) := by decide +kernel
theorem dX7_countBackwards_48 : decode cX7_countBackwards 48 = .ok (.getfield 22, 3) := by decide +kernel
theorem dX7_countBackwards_51 : decode cX7_countBackwards 51 = .ok (.iload_n 3, 1) := by decide +kernel
theorem dX7_countBackwards_52 : decode cX7_countBackwards 52 = .ok (.bipush 41, 2) := by decide +kernel
theorem dX7_countBackwards_54 : decode cX7_countBackwards 54 = .ok (.imul, 1) := by decide +kernel
theorem dX7_countBackwards_55 : decode cX7_countBackwards 55 = .ok (.iload 4, 2) := by decide +kernel
theorem dX7_countBackwards_57 : decode cX7_countBackwards 57 = .ok (.iadd, 1) := by decide +kernel
theorem dX7_countBackwards_58 : decode cX7_countBackwards 58 = .ok (.aload_n 0, 1) := by decide +kernel
theorem dX7_countBackwards_59 : decode cX7_countBackwards 59 = .ok (.iload_n 3, 1) := by decide +kernel
theorem dX7_countBackwards_60 : decode cX7_countBackwards 60 = .ok (.iconst 1, 1) := by decide +kernel
theorem dX7_countBackwards_61 : decode cX7_countBackwards 61 = .ok (.isub, 1) := by decide +kernel
theorem dX7_countBackwards_62 : decode cX7_countBackwards 62 = .ok (.iload 4, 2) := by decide +kernel
theorem dX7_countBackwards_64 : decode cX7_countBackwards 64 = .ok (.iload_n 2, 1) := by decide +kernel
theorem dX7_countBackwards_65 : decode cX7_countBackwards 65 = .ok (.invokevirtual 86, 3) := by decide +kernel
theorem dX7_countBackwards_68 : decode cX7_countBackwards 68 = .ok (.iastore, 1) := by decide +kernel
theorem dX7_countBackwards_69 : decode cX7_countBackwards 69 = .ok (.iinc 4 1, 3) := by decide +kernel
theorem dX7_countBackwards_72 : decode cX7_countBackwards 72 = .ok (.goto (-31), 3) := by decide +kernel
theorem dX7_countBackwards_75 : decode cX7_countBackwards 75 = .ok (.iinc 3 1, 3) := by decide +kernel
theorem dX7_countBackwards_78 : decode cX7_countBackwards 78 = .ok (.goto (-45), 3) := by decide +kernel
theorem dX7_countBackwards_81 : decode cX7_countBackwards 81 = .ok (.return_, 1) := by decide +kernel
theorem dX7_mostOfNext_0 : decode cX7_mostOfNext 0 = .ok (.iconst (-1), 1) := by decide +kernel
theorem dX7_mostOfNext_1 : decode cX7_mostOfNext 1 = .ok (.istore 4, 2) := by decide +kernel
theorem dX7_mostOfNext_3 : decode cX7_mostOfNext 3 = .ok (.iconst 1, 1) := by decide +kernel
theorem dX7_mostOfNext_4 : decode cX7_mostOfNext 4 = .ok (.istore 5, 2) := by decide +kernel
theorem dX7_mostOfNext_6 : decode cX7_mostOfNext 6 = .ok (.iload 5, 2) := by decide +kernel
theorem dX7_mostOfNext_8 : decode cX7_mostOfNext 8 = .ok (.aload_n 0, 1) := by decide +kernel
theorem dX7_mostOfNext_9 : decode cX7_mostOfNext 9 = .ok (.getfield 15, 3) := by decide +kernel
theorem dX7_mostOfNext_12 : decode cX7_mostOfNext 12 = .ok (.if_icmp .gt 61, 3) := by decide +kernel
theorem dX7_mostOfNext_15 : decode cX7_mostOfNext 15 = .ok (.iload_n 2, 1) := by decide +kernel
theorem dX7_mostOfNext_16 : decode cX7_mostOfNext 16 = .ok (.iload 5, 2) := by decide +kernel
theorem dX7_mostOfNext_18 : decode cX7_mostOfNext 18 = .ok (.iadd, 1) := by decide +kernel
theorem dX7_mostOfNext_19 : decode cX7_mostOfNext 19 = .ok (.iload_n 3, 1) := by decide +kernel
theorem dX7_mostOfNext_20 : decode cX7_mostOfNext 20 = .ok (.if_icmp .gt 53, 3) := by decide +kernel
theorem dX7_mostOfNext_23 : decode cX7_mostOfNext 23 = .ok (.aload_n 0, 1) := by decide +kernel
theorem dX7_mostOfNext_24 : decode cX7_mostOfNext 24 = .ok (.getfield 22, 3) := by decide +kernel
theorem dX7_mostOfNext_27 : decode cX7_mostOfNext 27 = .ok (.iload_n 1, 1) := by decide +kernel
theorem dX7_mostOfNext_28 : decode cX7_mostOfNext 28 = .ok (.bipush 41, 2) := by decide +kernel
theorem dX7_mostOfNext_30 : decode cX7_mostOfNext 30 = .ok (.imul, 1) := by decide +kernel
theorem dX7_mostOfNext_31 : decode cX7_mostOfNext 31 = .ok (.iload_n 2, 1) := by decide +kernel
theorem dX7_mostOfNext_32 : decode cX7_mostOfNext 32 = .ok (.iadd, 1) := by decide +kernel
theorem dX7_mostOfNext_33 : decode cX7_mostOfNext 33 = .ok (.iload 5, 2) := by decide +kernel
theorem dX7_mostOfNext_35 : decode cX7_mostOfNext 35 = .ok (.iadd, 1) := by decide +kernel
theorem dX7_mostOfNext_36 : decode cX7_mostOfNext 36 = .ok (.iaload, 1) := by decide +kernel
theorem dX7_mostOfNext_37 : decode cX7_mostOfNext 37 = .ok (.istore 6, 2) := by decide +kernel
theorem dX7_mostOfNext_39 : decode cX7_mostOfNext 39 = .ok (.iload 6, 2) := by decide +kernel
theorem dX7_mostOfNext_41 : decode cX7_mostOfNext 41 = .ok (.iconst (-1), 1) := by decide +kernel
theorem dX7_mostOfNext_42 : decode cX7_mostOfNext 42 = .ok (.if_icmp .eq 25, 3) := by decide +kernel
theorem dX7_mostOfNext_45 : decode cX7_mostOfNext 45 = .ok (.iload 4, 2) := by decide +kernel
theorem dX7_mostOfNext_47 : decode cX7_mostOfNext 47 = .ok (.iload 6, 2) := by decide +kernel
theorem dX7_mostOfNext_49 : decode cX7_mostOfNext 49 = .ok (.aload_n 0, 1) := by decide +kernel
theorem dX7_mostOfNext_50 : decode cX7_mostOfNext 50 = .ok (.getfield 18, 3) := by decide +kernel
theorem dX7_mostOfNext_53 : decode cX7_mostOfNext 53 = .ok (.iload 5, 2) := by decide +kernel
theorem dX7_mostOfNext_55 : decode cX7_mostOfNext 55 = .ok (.bipush 41, 2) := by decide +kernel
theorem dX7_mostOfNext_57 : decode cX7_mostOfNext 57 = .ok (.imul, 1) := by decide +kernel
theorem dX7_mostOfNext_58 : decode cX7_mostOfNext 58 = .ok (.iload_n 2, 1) := by decide +kernel
theorem dX7_mostOfNext_59 : decode cX7_mostOfNext 59 = .ok (.iadd, 1) := by decide +kernel
theorem dX7_mostOfNext_60 : decode cX7_mostOfNext 60 = .ok (.iaload, 1) := by decide +kernel
theorem dX7_mostOfNext_61 : decode cX7_mostOfNext 61 = .ok (.iadd, 1) := by decide +kernel
theorem dX7_mostOfNext_62 : decode cX7_mostOfNext 62 = .ok (.invokestatic 41, 3) := by decide +kernel
theorem dX7_mostOfNext_65 : decode cX7_mostOfNext 65 = .ok (.istore 4, 2) := by decide +kernel
theorem dX7_mostOfNext_67 : decode cX7_mostOfNext 67 = .ok (.iinc 5 1, 3) := by decide +kernel
theorem dX7_mostOfNext_70 : decode cX7_mostOfNext 70 = .ok (.goto (-64), 3) := by decide +kernel
theorem dX7_mostOfNext_73 : decode cX7_mostOfNext 73 = .ok (.iload 4, 2) := by decide +kernel
theorem dX7_mostOfNext_75 : decode cX7_mostOfNext 75 = .ok (.ireturn, 1) := by decide +kernel
theorem dX7_firstClimb_0 : decode cX7_firstClimb 0 = .ok (.iconst 1, 1) := by decide +kernel
theorem dX7_firstClimb_1 : decode cX7_firstClimb 1 = .ok (.istore 5, 2) := by decide +kernel
theorem dX7_firstClimb_3 : decode cX7_firstClimb 3 = .ok (.iload 5, 2) := by decide +kernel
theorem dX7_firstClimb_5 : decode cX7_firstClimb 5 = .ok (.aload_n 0, 1) := by decide +kernel
theorem dX7_firstClimb_6 : decode cX7_firstClimb 6 = .ok (.getfield 15, 3) := by decide +kernel
theorem dX7_firstClimb_9 : decode cX7_firstClimb 9 = .ok (.if_icmp .gt 62, 3) := by decide +kernel
theorem dX7_firstClimb_12 : decode cX7_firstClimb 12 = .ok (.iload_n 2, 1) := by decide +kernel
theorem dX7_firstClimb_13 : decode cX7_firstClimb 13 = .ok (.iload 5, 2) := by decide +kernel
theorem dX7_firstClimb_15 : decode cX7_firstClimb 15 = .ok (.iadd, 1) := by decide +kernel
theorem dX7_firstClimb_16 : decode cX7_firstClimb 16 = .ok (.iload_n 3, 1) := by decide +kernel
theorem dX7_firstClimb_17 : decode cX7_firstClimb 17 = .ok (.if_icmp .gt 54, 3) := by decide +kernel
theorem dX7_firstClimb_20 : decode cX7_firstClimb 20 = .ok (.aload_n 0, 1) := by decide +kernel
theorem dX7_firstClimb_21 : decode cX7_firstClimb 21 = .ok (.getfield 22, 3) := by decide +kernel
theorem dX7_firstClimb_24 : decode cX7_firstClimb 24 = .ok (.iload_n 1, 1) := by decide +kernel
theorem dX7_firstClimb_25 : decode cX7_firstClimb 25 = .ok (.bipush 41, 2) := by decide +kernel
theorem dX7_firstClimb_27 : decode cX7_firstClimb 27 = .ok (.imul, 1) := by decide +kernel
theorem dX7_firstClimb_28 : decode cX7_firstClimb 28 = .ok (.iload_n 2, 1) := by decide +kernel
theorem dX7_firstClimb_29 : decode cX7_firstClimb 29 = .ok (.iadd, 1) := by decide +kernel
theorem dX7_firstClimb_30 : decode cX7_firstClimb 30 = .ok (.iload 5, 2) := by decide +kernel
theorem dX7_firstClimb_32 : decode cX7_firstClimb 32 = .ok (.iadd, 1) := by decide +kernel
theorem dX7_firstClimb_33 : decode cX7_firstClimb 33 = .ok (.iaload, 1) := by decide +kernel
theorem dX7_firstClimb_34 : decode cX7_firstClimb 34 = .ok (.istore 6, 2) := by decide +kernel
theorem dX7_firstClimb_36 : decode cX7_firstClimb 36 = .ok (.iload 6, 2) := by decide +kernel
theorem dX7_firstClimb_38 : decode cX7_firstClimb 38 = .ok (.iconst (-1), 1) := by decide +kernel
theorem dX7_firstClimb_39 : decode cX7_firstClimb 39 = .ok (.if_icmp .eq 26, 3) := by decide +kernel
theorem dX7_firstClimb_42 : decode cX7_firstClimb 42 = .ok (.iload 6, 2) := by decide +kernel
theorem dX7_firstClimb_44 : decode cX7_firstClimb 44 = .ok (.aload_n 0, 1) := by decide +kernel
theorem dX7_firstClimb_45 : decode cX7_firstClimb 45 = .ok (.getfield 18, 3) := by decide +kernel
theorem dX7_firstClimb_48 : decode cX7_firstClimb 48 = .ok (.iload 5, 2) := by decide +kernel
theorem dX7_firstClimb_50 : decode cX7_firstClimb 50 = .ok (.bipush 41, 2) := by decide +kernel
theorem dX7_firstClimb_52 : decode cX7_firstClimb 52 = .ok (.imul, 1) := by decide +kernel
theorem dX7_firstClimb_53 : decode cX7_firstClimb 53 = .ok (.iload_n 2, 1) := by decide +kernel
theorem dX7_firstClimb_54 : decode cX7_firstClimb 54 = .ok (.iadd, 1) := by decide +kernel
theorem dX7_firstClimb_55 : decode cX7_firstClimb 55 = .ok (.iaload, 1) := by decide +kernel
theorem dX7_firstClimb_56 : decode cX7_firstClimb 56 = .ok (.iadd, 1) := by decide +kernel
theorem dX7_firstClimb_57 : decode cX7_firstClimb 57 = .ok (.iload 4, 2) := by decide +kernel
theorem dX7_firstClimb_59 : decode cX7_firstClimb 59 = .ok (.if_icmp .lt 6, 3) := by decide +kernel
theorem dX7_firstClimb_62 : decode cX7_firstClimb 62 = .ok (.iload 5, 2) := by decide +kernel
theorem dX7_firstClimb_64 : decode cX7_firstClimb 64 = .ok (.ireturn, 1) := by decide +kernel
theorem dX7_firstClimb_65 : decode cX7_firstClimb 65 = .ok (.iinc 5 1, 3) := by decide +kernel
theorem dX7_firstClimb_68 : decode cX7_firstClimb 68 = .ok (.goto (-65), 3) := by decide +kernel
theorem dX7_firstClimb_71 : decode cX7_firstClimb 71 = .ok (.iconst (-1), 1) := by decide +kernel
theorem dX7_firstClimb_72 : decode cX7_firstClimb 72 = .ok (.ireturn, 1) := by decide +kernel
theorem dX8_init_0 : decode cX8_init 0 = .ok (.aload_n 0, 1) := by decide +kernel
theorem dX8_init_1 : decode cX8_init 1 = .ok (.invokespecial 3, 3) := by decide +kernel
theorem dX8_init_4 : decode cX8_init 4 = .ok (.aload_n 0, 1) := by decide +kernel
theorem dX8_init_5 : decode cX8_init 5 = .ok (.bipush 8, 2) := by decide +kernel
theorem dX8_init_7 : decode cX8_init 7 = .ok (.newarray .long, 2) := by decide +kernel
theorem dX8_init_9 : decode cX8_init 9 = .ok (.putfield 9, 3) := by decide +kernel
theorem dX8_init_12 : decode cX8_init 12 = .ok (.aload_n 0, 1) := by decide +kernel
theorem dX8_init_13 : decode cX8_init 13 = .ok (.iconst 0, 1) := by decide +kernel
theorem dX8_init_14 : decode cX8_init 14 = .ok (.putfield 15, 3) := by decide +kernel
theorem dX8_init_17 : decode cX8_init 17 = .ok (.aload_n 0, 1) := by decide +kernel
theorem dX8_init_18 : decode cX8_init 18 = .ok (.iconst 0, 1) := by decide +kernel
theorem dX8_init_19 : decode cX8_init 19 = .ok (.putfield 19, 3) := by decide +kernel
theorem dX8_init_22 : decode cX8_init 22 = .ok (.aload_n 0, 1) := by decide +kernel
theorem dX8_init_23 : decode cX8_init 23 = .ok (.iconst 0, 1) := by decide +kernel
theorem dX8_init_24 : decode cX8_init 24 = .ok (.putfield 23, 3) := by decide +kernel
theorem dX8_init_27 : decode cX8_init 27 = .ok (.aload_n 0, 1) := by decide +kernel
theorem dX8_init_28 : decode cX8_init 28 = .ok (.iconst 0, 1) := by decide +kernel
theorem dX8_init_29 : decode cX8_init 29 = .ok (.putfield 26, 3) := by decide +kernel
theorem dX8_init_32 : decode cX8_init 32 = .ok (.aload_n 0, 1) := by decide +kernel
theorem dX8_init_33 : decode cX8_init 33 = .ok (.iconst 0, 1) := by decide +kernel
theorem dX8_init_34 : decode cX8_init 34 = .ok (.putfield 29, 3) := by decide +kernel
theorem dX8_init_37 : decode cX8_init 37 = .ok (.aload_n 0, 1) := by decide +kernel
theorem dX8_init_38 : decode cX8_init 38 = .ok (.iconst (-1), 1) := by decide +kernel
theorem dX8_init_39 : decode cX8_init 39 = .ok (.putfield 32, 3) := by decide +kernel
theorem dX8_init_42 : decode cX8_init 42 = .ok (.aload_n 0, 1) := by decide +kernel
theorem dX8_init_43 : decode cX8_init 43 = .ok (.new 35, 3) := by decide +kernel
theorem dX8_init_46 : decode cX8_init 46 = .ok (.dup, 1) := by decide +kernel
theorem dX8_init_47 : decode cX8_init 47 = .ok (.aload_n 1, 1) := by decide +kernel
theorem dX8_init_48 : decode cX8_init 48 = .ok (.invokespecial 37, 3) := by decide +kernel
theorem dX8_init_51 : decode cX8_init 51 = .ok (.putfield 40, 3) := by decide +kernel
theorem dX8_init_54 : decode cX8_init 54 = .ok (.return_, 1) := by decide +kernel
theorem dX8_read_0 : decode cX8_read 0 = .ok (.aload_n 2, 1) := by decide +kernel
theorem dX8_read_1 : decode cX8_read 1 = .ok (.invokevirtual 44, 3) := by decide +kernel
theorem dX8_read_4 : decode cX8_read 4 = .ok (.aload_n 0, 1) := by decide +kernel
theorem dX8_read_5 : decode cX8_read 5 = .ok (.iconst 0, 1) := by decide +kernel
theorem dX8_read_6 : decode cX8_read 6 = .ok (.putfield 19, 3) := by decide +kernel
theorem dX8_read_9 : decode cX8_read 9 = .ok (.aload_n 0, 1) := by decide +kernel
theorem dX8_read_10 : decode cX8_read 10 = .ok (.iconst 0, 1) := by decide +kernel
theorem dX8_read_11 : decode cX8_read 11 = .ok (.putfield 23, 3) := by decide +kernel
theorem dX8_read_14 : decode cX8_read 14 = .ok (.aload_n 0, 1) := by decide +kernel
theorem dX8_read_15 : decode cX8_read 15 = .ok (.iconst 0, 1) := by decide +kernel
theorem dX8_read_16 : decode cX8_read 16 = .ok (.putfield 26, 3) := by decide +kernel
theorem dX8_read_19 : decode cX8_read 19 = .ok (.aload_n 0, 1) := by decide +kernel
theorem dX8_read_20 : decode cX8_read 20 = .ok (.iconst 0, 1) := by decide +kernel
theorem dX8_read_21 : decode cX8_read 21 = .ok (.putfield 29, 3) := by decide +kernel
theorem dX8_read_24 : decode cX8_read 24 = .ok (.aload_n 0, 1) := by decide +kernel
theorem dX8_read_25 : decode cX8_read 25 = .ok (.iconst (-1), 1) := by decide +kernel
theorem dX8_read_26 : decode cX8_read 26 = .ok (.putfield 32, 3) := by decide +kernel
theorem dX8_read_29 : decode cX8_read 29 = .ok (.aload_n 0, 1) := by decide +kernel
theorem dX8_read_30 : decode cX8_read 30 = .ok (.getfield 40, 3) := by decide +kernel
theorem dX8_read_33 : decode cX8_read 33 = .ok (.iload_n 1, 1) := by decide +kernel
theorem dX8_read_34 : decode cX8_read 34 = .ok (.invokevirtual 49, 3) := by decide +kernel
theorem dX8_read_37 : decode cX8_read 37 = .ok (.aload_n 0, 1) := by decide +kernel
theorem dX8_read_38 : decode cX8_read 38 = .ok (.invokevirtual 53, 3) := by decide +kernel
theorem dX8_read_41 : decode cX8_read 41 = .ok (.aload_n 0, 1) := by decide +kernel
theorem dX8_read_42 : decode cX8_read 42 = .ok (.ldc 56, 2) := by decide +kernel
theorem dX8_read_44 : decode cX8_read 44 = .ok (.invokevirtual 58, 3) := by decide +kernel
theorem dX8_read_47 : decode cX8_read 47 = .ok (.ifCond .eq 8, 3) := by decide +kernel
theorem dX8_read_50 : decode cX8_read 50 = .ok (.aload_n 0, 1) := by decide +kernel
theorem dX8_read_51 : decode cX8_read 51 = .ok (.aload_n 2, 1) := by decide +kernel
theorem dX8_read_52 : decode cX8_read 52 = .ok (.invokevirtual 62, 3) := by decide +kernel
theorem dX8_read_55 : decode cX8_read 55 = .ok (.iconst 0, 1) := by decide +kernel
theorem dX8_read_56 : decode cX8_read 56 = .ok (.istore_n 3, 1) := by decide +kernel
theorem dX8_read_57 : decode cX8_read 57 = .ok (.iload_n 3, 1) := by decide +kernel
theorem dX8_read_58 : decode cX8_read 58 = .ok (.sipush 1600, 3) := by decide +kernel
theorem dX8_read_61 : decode cX8_read 61 = .ok (.if_icmp .ge 21, 3) := by decide +kernel
theorem dX8_read_64 : decode cX8_read 64 = .ok (.aload_n 0, 1) := by decide +kernel
theorem dX8_read_65 : decode cX8_read 65 = .ok (.invokevirtual 66, 3) := by decide +kernel
theorem dX8_read_68 : decode cX8_read 68 = .ok (.ifCond .eq 14, 3) := by decide +kernel
theorem dX8_read_71 : decode cX8_read 71 = .ok (.aload_n 0, 1) := by decide +kernel
theorem dX8_read_72 : decode cX8_read 72 = .ok (.aload_n 2, 1) := by decide +kernel
theorem dX8_read_73 : decode cX8_read 73 = .ok (.invokevirtual 70, 3) := by decide +kernel
theorem dX8_read_76 : decode cX8_read 76 = .ok (.iinc 3 1, 3) := by decide +kernel
theorem dX8_read_79 : decode cX8_read 79 = .ok (.goto (-22), 3) := by decide +kernel
theorem dX8_read_82 : decode cX8_read 82 = .ok (.aload_n 0, 1) := by decide +kernel
theorem dX8_read_83 : decode cX8_read 83 = .ok (.getfield 29, 3) := by decide +kernel
theorem dX8_read_86 : decode cX8_read 86 = .ok (.ifCond .ne 7, 3) := by decide +kernel
theorem dX8_read_89 : decode cX8_read 89 = .ok (.iconst 1, 1) := by decide +kernel
theorem dX8_read_90 : decode cX8_read 90 = .ok (.goto 4, 3) := by decide +kernel
theorem dX8_read_93 : decode cX8_read 93 = .ok (.iconst 0, 1) := by decide +kernel
theorem dX8_read_94 : decode cX8_read 94 = .ok (.ireturn, 1) := by decide +kernel
theorem dX8_isGoingOn_0 : decode cX8_isGoingOn 0 = .ok (.aload_n 0, 1) := by decide +kernel
theorem dX8_isGoingOn_1 : decode cX8_isGoingOn 1 = .ok (.getfield 29, 3) := by decide +kernel
theorem dX8_isGoingOn_4 : decode cX8_isGoingOn 4 = .ok (.ifCond .ne 17, 3) := by decide +kernel
theorem dX8_isGoingOn_7 : decode cX8_isGoingOn 7 = .ok (.aload_n 0, 1) := by decide +kernel
theorem dX8_isGoingOn_8 : decode cX8_isGoingOn 8 = .ok (.getfield 40, 3) := by decide +kernel
theorem dX8_isGoingOn_11 : decode cX8_isGoingOn 11 = .ok (.getfield 73, 3) := by decide +kernel
theorem dX8_isGoingOn_14 : decode cX8_isGoingOn 14 = .ok (.ifCond .eq 7, 3) := by decide +kernel
theorem dX8_isGoingOn_17 : decode cX8_isGoingOn 17 = .ok (.iconst 1, 1) := by decide +kernel
theorem dX8_isGoingOn_18 : decode cX8_isGoingOn 18 = .ok (.goto 4, 3) := by decide +kernel
theorem dX8_isGoingOn_21 : decode cX8_isGoingOn 21 = .ok (.iconst 0, 1) := by decide +kernel
theorem dX8_isGoingOn_22 : decode cX8_isGoingOn 22 = .ok (.ireturn, 1) := by decide +kernel
theorem dX8_fail_0 : decode cX8_fail 0 = .ok (.aload_n 0, 1) := by decide +kernel
theorem dX8_fail_1 : decode cX8_fail 1 = .ok (.getfield 29, 3) := by decide +kernel
theorem dX8_fail_4 : decode cX8_fail 4 = .ok (.ifCond .ne 19, 3) := by decide +kernel
theorem dX8_fail_7 : decode cX8_fail 7 = .ok (.aload_n 0, 1) := by decide +kernel
theorem dX8_fail_8 : decode cX8_fail 8 = .ok (.iload_n 1, 1) := by decide +kernel
theorem dX8_fail_9 : decode cX8_fail 9 = .ok (.putfield 29, 3) := by decide +kernel
theorem dX8_fail_12 : decode cX8_fail 12 = .ok (.aload_n 0, 1) := by decide +kernel
theorem dX8_fail_13 : decode cX8_fail 13 = .ok (.aload_n 0, 1) := by decide +kernel
theorem dX8_fail_14 : decode cX8_fail 14 = .ok (.getfield 40, 3) := by decide +kernel
theorem dX8_fail_17 : decode cX8_fail 17 = .ok (.getfield 76, 3) := by decide +kernel
theorem dX8_fail_20 : decode cX8_fail 20 = .ok (.putfield 32, 3) := by decide +kernel
theorem dX8_fail_23 : decode cX8_fail 23 = .ok (.return_, 1) := by decide +kernel
theorem dX8_step_0 : decode cX8_step 0 = .ok (.aload_n 0, 1) := by decide +kernel
theorem dX8_step_1 : decode cX8_step 1 = .ok (.getfield 29, 3) := by decide +kernel
theorem dX8_step_4 : decode cX8_step 4 = .ok (.ifCond .ne 14, 3) := by decide +kernel
theorem dX8_step_7 : decode cX8_step 7 = .ok (.aload_n 0, 1) := by decide +kernel
theorem dX8_step_8 : decode cX8_step 8 = .ok (.getfield 40, 3) := by decide +kernel
theorem dX8_step_11 : decode cX8_step 11 = .ok (.invokevirtual 79, 3) := by decide +kernel
theorem dX8_step_14 : decode cX8_step 14 = .ok (.aload_n 0, 1) := by decide +kernel
theorem dX8_step_15 : decode cX8_step 15 = .ok (.invokevirtual 53, 3) := by decide +kernel
theorem dX8_step_18 : decode cX8_step 18 = .ok (.return_, 1) := by decide +kernel
theorem dX8_lookForToken_0 : decode cX8_lookForToken 0 = .ok (.aload_n 0, 1) := by decide +kernel
theorem dX8_lookForToken_1 : decode cX8_lookForToken 1 = .ok (.getfield 40, 3) := by decide +kernel
theorem dX8_lookForToken_4 : decode cX8_lookForToken 4 = .ok (.getfield 73, 3) := by decide +kernel
theorem dX8_lookForToken_7 : decode cX8_lookForToken 7 = .ok (.iconst 1, 1) := by decide +kernel
theorem dX8_lookForToken_8 : decode cX8_lookForToken 8 = .ok (.if_icmp .ne 8, 3) := by decide +kernel
theorem dX8_lookForToken_11 : decode cX8_lookForToken 11 = .ok (.aload_n 0, 1) := by decide +kernel
theorem dX8_lookForToken_12 : decode cX8_lookForToken 12 = .ok (.iconst 1, 1) := by decide +kernel
theorem dX8_lookForToken_13 : decode cX8_lookForToken 13 = .ok (.invokevirtual 82, 3) := by decide +kernel
theorem dX8_lookForToken_16 : decode cX8_lookForToken 16 = .ok (.return_, 1) := by decide +kernel
theorem dX8_readStoreys_0 : decode cX8_readStoreys 0 = .ok (.aload_n 0, 1) := by decide +kernel
theorem dX8_readStoreys_1 : decode cX8_readStoreys 1 = .ok (.invokevirtual 85, 3) := by decide +kernel
theorem dX8_readStoreys_4 : decode cX8_readStoreys 4 = .ok (.aload_n 1, 1) := by decide +kernel
theorem dX8_readStoreys_5 : decode cX8_readStoreys 5 = .ok (.aload_n 0, 1) := by decide +kernel
theorem dX8_readStoreys_6 : decode cX8_readStoreys 6 = .ok (.iconst 1, 1) := by decide +kernel
theorem dX8_readStoreys_7 : decode cX8_readStoreys 7 = .ok (.bipush 20, 2) := by decide +kernel
theorem dX8_readStoreys_9 : decode cX8_readStoreys 9 = .ok (.invokevirtual 86, 3) := by decide +kernel
theorem dX8_readStoreys_12 : decode cX8_readStoreys 12 = .ok (.putfield 90, 3) := by decide +kernel
theorem dX8_readStoreys_15 : decode cX8_readStoreys 15 = .ok (.aload_n 0, 1) := by decide +kernel
theorem dX8_readStoreys_16 : decode cX8_readStoreys 16 = .ok (.ldc 92, 2) := by decide +kernel
theorem dX8_readStoreys_18 : decode cX8_readStoreys 18 = .ok (.invokevirtual 58, 3) := by decide +kernel
theorem dX8_readStoreys_21 : decode cX8_readStoreys 21 = .ok (.ifCond .eq 20, 3) := by decide +kernel
theorem dX8_readStoreys_24 : decode cX8_readStoreys 24 = .ok (.aload_n 0, 1) := by decide +kernel
theorem dX8_readStoreys_25 : decode cX8_readStoreys 25 = .ok (.invokevirtual 85, 3) := by decide +kernel
theorem dX8_readStoreys_28 : decode cX8_readStoreys 28 = .ok (.aload_n 1, 1) := by decide +kernel
theorem dX8_readStoreys_29 : decode cX8_readStoreys 29 = .ok (.aload_n 0, 1) := by decide +kernel
theorem dX8_readStoreys_30 : decode cX8_readStoreys 30 = .ok (.iconst 0, 1) := by decide +kernel
theorem dX8_readStoreys_31 : decode cX8_readStoreys 31 = .ok (.aload_n 1, 1) := by decide +kernel
theorem dX8_readStoreys_32 : decode cX8_readStoreys 32 = .ok (.getfield 90, 3) := by decide +kernel
theorem dX8_readStoreys_35 : decode cX8_readStoreys 35 = .ok (.invokevirtual 86, 3) := by decide +kernel
theorem dX8_readStoreys_38 : decode cX8_readStoreys 38 = .ok (.putfield 94, 3) := by decide +kernel
theorem dX8_readStoreys_41 : decode cX8_readStoreys 41 = .ok (.aload_n 0, 1) := by decide +kernel
theorem dX8_readStoreys_42 : decode cX8_readStoreys 42 = .ok (.bipush 59, 2) := by decide +kernel
theorem dX8_readStoreys_44 : decode cX8_readStoreys 44 = .ok (.invokevirtual 97, 3) := by decide +kernel
theorem dX8_readStoreys_47 : decode cX8_readStoreys 47 = .ok (.return_, 1) := by decide +kernel
theorem dX8_readLine_0 : decode cX8_readLine 0 = .ok (.aload_n 0, 1) := by decide +kernel
theorem dX8_readLine_1 : decode cX8_readLine 1 = .ok (.getfield 40, 3) := by decide +kernel
theorem dX8_readLine_4 : decode cX8_readLine 4 = .ok (.ldc 100, 2) := by decide +kernel
theorem dX8_readLine_6 : decode cX8_readLine 6 = .ok (.invokevirtual 102, 3) := by decide +kernel
theorem dX8_readLine_9 : decode cX8_readLine 9 = .ok (.ifCond .eq 11, 3) := by decide +kernel
theorem dX8_readLine_12 : decode cX8_readLine 12 = .ok (.aload_n 0, 1) := by decide +kernel
theorem dX8_readLine_13 : decode cX8_readLine 13 = .ok (.aload_n 1, 1) := by decide +kernel
theorem dX8_readLine_14 : decode cX8_readLine 14 = .ok (.invokevirtual 105, 3) := by decide +kernel
theorem dX8_readLine_17 : decode cX8_readLine 17 = .ok (.goto 123, 3) := by decide +kernel
theorem dX8_readLine_20 : decode cX8_readLine 20 = .ok (.aload_n 0, 1) := by decide +kernel
theorem dX8_readLine_21 : decode cX8_readLine 21 = .ok (.getfield 40, 3) := by decide +kernel
theorem dX8_readLine_24 : decode cX8_readLine 24 = .ok (.ldc 108, 2) := by decide +kernel
theorem dX8_readLine_26 : decode cX8_readLine 26 = .ok (.invokevirtual 102, 3) := by decide +kernel
theorem dX8_readLine_29 : decode cX8_readLine 29 = .ok (.ifCond .eq 27, 3) := by decide +kernel
theorem dX8_readLine_32 : decode cX8_readLine 32 = .ok (.aload_n 0, 1) := by decide +kernel
theorem dX8_readLine_33 : decode cX8_readLine 33 = .ok (.getfield 19, 3) := by decide +kernel
theorem dX8_readLine_36 : decode cX8_readLine 36 = .ok (.ifCond .ne 20, 3) := by decide +kernel
theorem dX8_readLine_39 : decode cX8_readLine 39 = .ok (.aload_n 0, 1) := by decide +kernel
theorem dX8_readLine_40 : decode cX8_readLine 40 = .ok (.iconst 1, 1) := by decide +kernel
theorem dX8_readLine_41 : decode cX8_readLine 41 = .ok (.putfield 19, 3) := by decide +kernel
theorem dX8_readLine_44 : decode cX8_readLine 44 = .ok (.aload_n 0, 1) := by decide +kernel
theorem dX8_readLine_45 : decode cX8_readLine 45 = .ok (.aload_n 1, 1) := by decide +kernel
theorem dX8_readLine_46 : decode cX8_readLine 46 = .ok (.aload_n 1, 1) := by decide +kernel
theorem dX8_readLine_47 : decode cX8_readLine 47 = .ok (.getfield 110, 3) := by decide +kernel
theorem dX8_readLine_50 : decode cX8_readLine 50 = .ok (.invokevirtual 113, 3) := by decide +kernel
theorem dX8_readLine_53 : decode cX8_readLine 53 = .ok (.goto 87, 3) := by decide +kernel
theorem dX8_readLine_56 : decode cX8_readLine 56 = .ok (.aload_n 0, 1) := by decide +kernel
theorem dX8_readLine_57 : decode cX8_readLine 57 = .ok (.getfield 40, 3) := by decide +kernel
theorem dX8_readLine_60 : decode cX8_readLine 60 = .ok (.ldc 117, 2) := by decide +kernel
theorem dX8_readLine_62 : decode cX8_readLine 62 = .ok (.invokevirtual 102, 3) := by decide +kernel
theorem dX8_readLine_65 : decode cX8_readLine 65 = .ok (.ifCond .eq 27, 3) := by decide +kernel
theorem dX8_readLine_68 : decode cX8_readLine 68 = .ok (.aload_n 0, 1) := by decide +kernel
theorem dX8_readLine_69 : decode cX8_readLine 69 = .ok (.getfield 23, 3) := by decide +kernel
theorem dX8_readLine_72 : decode cX8_readLine 72 = .ok (.ifCond .ne 20, 3) := by decide +kernel
theorem dX8_readLine_75 : decode cX8_readLine 75 = .ok (.aload_n 0, 1) := by decide +kernel
theorem dX8_readLine_76 : decode cX8_readLine 76 = .ok (.iconst 1, 1) := by decide +kernel
theorem dX8_readLine_77 : decode cX8_readLine 77 = .ok (.putfield 23, 3) := by decide +kernel
theorem dX8_readLine_80 : decode cX8_readLine 80 = .ok (.aload_n 0, 1) := by decide +kernel
theorem dX8_readLine_81 : decode cX8_readLine 81 = .ok (.aload_n 1, 1) := by decide +kernel
theorem dX8_readLine_82 : decode cX8_readLine 82 = .ok (.aload_n 1, 1) := by decide +kernel
theorem dX8_readLine_83 : decode cX8_readLine 83 = .ok (.getfield 119, 3) := by decide +kernel
theorem dX8_readLine_86 : decode cX8_readLine 86 = .ok (.invokevirtual 113, 3) := by decide +kernel
theorem dX8_readLine_89 : decode cX8_readLine 89 = .ok (.goto 51, 3) := by decide +kernel
theorem dX8_readLine_92 : decode cX8_readLine 92 = .ok (.aload_n 0, 1) := by decide +kernel
theorem dX8_readLine_93 : decode cX8_readLine 93 = .ok (.getfield 40, 3) := by decide +kernel
theorem dX8_readLine_96 : decode cX8_readLine 96 = .ok (.ldc 121, 2) := by decide +kernel
theorem dX8_readLine_98 : decode cX8_readLine 98 = .ok (.invokevirtual 102, 3) := by decide +kernel
theorem dX8_readLine_101 : decode cX8_readLine 101 = .ok (.ifCond .eq 34, 3) := by decide +kernel
theorem dX8_readLine_104 : decode cX8_readLine 104 = .ok (.aload_n 0, 1) := by decide +kernel
theorem dX8_readLine_105 : decode cX8_readLine 105 = .ok (.getfield 26, 3) := by decide +kernel
theorem dX8_readLine_108 : decode cX8_readLine 108 = .ok (.ifCond .ne 27, 3) := by decide +kernel
theorem dX8_readLine_111 : decode cX8_readLine 111 = .ok (.aload_n 0, 1) := by decide +kernel
theorem dX8_readLine_112 : decode cX8_readLine 112 = .ok (.iconst 1, 1) := by decide +kernel
theorem dX8_readLine_113 : decode cX8_readLine 113 = .ok (.putfield 26, 3) := by decide +kernel
theorem dX8_readLine_116 : decode cX8_readLine 116 = .ok (.aload_n 0, 1) := by decide +kernel
theorem dX8_readLine_117 : decode cX8_readLine 117 = .ok (.invokevirtual 85, 3) := by decide +kernel
theorem dX8_readLine_120 : decode cX8_readLine 120 = .ok (.aload_n 1, 1) := by decide +kernel
theorem dX8_readLine_121 : decode cX8_readLine 121 = .ok (.aload_n 0, 1) := by decide +kernel
theorem dX8_readLine_122 : decode cX8_readLine 122 = .ok (.iconst 0, 1) := by decide +kernel
theorem dX8_readLine_123 : decode cX8_readLine 123 = .ok (.sipush 999, 3) := by decide +kernel
theorem dX8_readLine_126 : decode cX8_readLine 126 = .ok (.invokevirtual 86, 3) := by decide +kernel
theorem dX8_readLine_129 : decode cX8_readLine 129 = .ok (.putfield 123, 3) := by decide +kernel
theorem dX8_readLine_132 : decode cX8_readLine 132 = .ok (.goto 8, 3) := by decide +kernel
theorem dX8_readLine_135 : decode cX8_readLine 135 = .ok (.aload_n 0, 1) := by decide +kernel
theorem dX8_readLine_136 : decode cX8_readLine 136 = .ok (.iconst 2, 1) := by decide +kernel
theorem dX8_readLine_137 : decode cX8_readLine 137 = .ok (.invokevirtual 82, 3) := by decide +kernel
theorem dX8_readLine_140 : decode cX8_readLine 140 = .ok (.aload_n 0, 1) := by decide +kernel
theorem dX8_readLine_141 : decode cX8_readLine 141 = .ok (.bipush 59, 2) := by decide +kernel
theorem dX8_readLine_143 : decode cX8_readLine 143 = .ok (.invokevirtual 97, 3) := by decide +kernel
theorem dX8_readLine_146 : decode cX8_readLine 146 = .ok (.return_, 1) := by decide +kernel
theorem dX8_readTenant_0 : decode cX8_readTenant 0 = .ok (.aload_n 1, 1) := by decide +kernel
theorem dX8_readTenant_1 : decode cX8_readTenant 1 = .ok (.getfield 125, 3) := by decide +kernel
theorem dX8_readTenant_4 : decode cX8_readTenant 4 = .ok (.istore_n 2, 1) := by decide +kernel
theorem dX8_readTenant_5 : decode cX8_readTenant 5 = .ok (.iload_n 2, 1) := by decide +kernel
theorem dX8_readTenant_6 : decode cX8_readTenant 6 = .ok (.ifCond .lt 9, 3) := by decide +kernel
theorem dX8_readTenant_9 : decode cX8_readTenant 9 = .ok (.iload_n 2, 1) := by decide +kernel
theorem dX8_readTenant_10 : decode cX8_readTenant 10 = .ok (.bipush 8, 2) := by decide +kernel
theorem dX8_readTenant_12 : decode cX8_readTenant 12 = .ok (.if_icmp .lt 9, 3) := by decide +kernel
theorem dX8_readTenant_15 : decode cX8_readTenant 15 = .ok (.aload_n 0, 1) := by decide +kernel
theorem dX8_readTenant_16 : decode cX8_readTenant 16 = .ok (.iconst 2, 1) := by decide +kernel
theorem dX8_readTenant_17 : decode cX8_readTenant 17 = .ok (.invokevirtual 82, 3) := by decide +kernel
theorem dX8_readTenant_20 : decode cX8_readTenant 20 = .ok (.return_, 1) := by decide +kernel
theorem dX8_readTenant_21 : decode cX8_readTenant 21 = .ok (.aload_n 0, 1) := by decide +kernel
theorem dX8_readTenant_22 : decode cX8_readTenant 22 = .ok (.invokevirtual 85, 3) := by decide +kernel
theorem dX8_readTenant_25 : decode cX8_readTenant 25 = .ok (.aload_n 0, 1) := by decide +kernel
theorem dX8_readTenant_26 : decode cX8_readTenant 26 = .ok (.iload_n 2, 1) := by decide +kernel
theorem dX8_readTenant_27 : decode cX8_readTenant 27 = .ok (.invokevirtual 128, 3) := by decide +kernel
theorem dX8_readTenant_30 : decode cX8_readTenant 30 = .ok (.aload_n 0, 1) := by decide +kernel
theorem dX8_readTenant_31 : decode cX8_readTenant 31 = .ok (.ldc 131, 2) := by decide +kernel
theorem dX8_readTenant_33 : decode cX8_readTenant 33 = .ok (.invokevirtual 133, 3) := by decide +kernel
theorem dX8_readTenant_36 : decode cX8_readTenant 36 = .ok (.aload_n 1, 1) := by decide +kernel
theorem dX8_readTenant_37 : decode cX8_readTenant 37 = .ok (.getfield 137, 3) := by decide +kernel
theorem dX8_readTenant_40 : decode cX8_readTenant 40 = .ok (.iload_n 2, 1) := by decide +kernel
theorem dX8_readTenant_41 : decode cX8_readTenant 41 = .ok (.aload_n 0, 1) := by decide +kernel
theorem dX8_readTenant_42 : decode cX8_readTenant 42 = .ok (.iconst 0, 1) := by decide +kernel
theorem dX8_readTenant_43 : decode cX8_readTenant 43 = .ok (.aload_n 1, 1) := by decide +kernel
theorem dX8_readTenant_44 : decode cX8_readTenant 44 = .ok (.getfield 90, 3) := by decide +kernel
theorem dX8_readTenant_47 : decode cX8_readTenant 47 = .ok (.invokevirtual 86, 3) := by decide +kernel
theorem dX8_readTenant_50 : decode cX8_readTenant 50 = .ok (.iastore, 1) := by decide +kernel
theorem dX8_readTenant_51 : decode cX8_readTenant 51 = .ok (.aload_n 0, 1) := by decide +kernel
theorem dX8_readTenant_52 : decode cX8_readTenant 52 = .ok (.ldc 140, 2) := by decide +kernel
theorem dX8_readTenant_54 : decode cX8_readTenant 54 = .ok (.invokevirtual 133, 3) := by decide +kernel
theorem dX8_readTenant_57 : decode cX8_readTenant 57 = .ok (.aload_n 1, 1) := by decide +kernel
theorem dX8_readTenant_58 : decode cX8_readTenant 58 = .ok (.getfield 142, 3) := by decide +kernel
theorem dX8_readTenant_61 : decode cX8_readTenant 61 = .ok (.iload_n 2, 1) := by decide +kernel
theorem dX8_readTenant_62 : decode cX8_readTenant 62 = .ok (.aload_n 0, 1) := by decide +kernel
theorem dX8_readTenant_63 : decode cX8_readTenant 63 = .ok (.iconst 0, 1) := by decide +kernel
theorem dX8_readTenant_64 : decode cX8_readTenant 64 = .ok (.bipush 40, 2) := by decide +kernel
theorem dX8_readTenant_66 : decode cX8_readTenant 66 = .ok (.invokevirtual 86, 3) := by decide +kernel
theorem dX8_readTenant_69 : decode cX8_readTenant 69 = .ok (.iastore, 1) := by decide +kernel
theorem dX8_readTenant_70 : decode cX8_readTenant 70 = .ok (.aload_n 0, 1) := by decide +kernel
theorem dX8_readTenant_71 : decode cX8_readTenant 71 = .ok (.ldc 144, 2) := by decide +kernel
theorem dX8_readTenant_73 : decode cX8_readTenant 73 = .ok (.invokevirtual 133, 3) := by decide +kernel
theorem dX8_readTenant_76 : decode cX8_readTenant 76 = .ok (.aload_n 1, 1) := by decide +kernel
theorem dX8_readTenant_77 : decode cX8_readTenant 77 = .ok (.getfield 146, 3) := by decide +kernel
theorem dX8_readTenant_80 : decode cX8_readTenant 80 = .ok (.iload_n 2, 1) := by decide +kernel
theorem dX8_readTenant_81 : decode cX8_readTenant 81 = .ok (.aload_n 0, 1) := by decide +kernel
theorem dX8_readTenant_82 : decode cX8_readTenant 82 = .ok (.iconst 0, 1) := by decide +kernel
theorem dX8_readTenant_83 : decode cX8_readTenant 83 = .ok (.bipush 9, 2) := by decide +kernel
theorem dX8_readTenant_85 : decode cX8_readTenant 85 = .ok (.invokevirtual 86, 3) := by decide +kernel
theorem dX8_readTenant_88 : decode cX8_readTenant 88 = .ok (.iastore, 1) := by decide +kernel
theorem dX8_readTenant_89 : decode cX8_readTenant 89 = .ok (.aload_n 0, 1) := by decide +kernel
theorem dX8_readTenant_90 : decode cX8_readTenant 90 = .ok (.ldc 148, 2) := by decide +kernel
theorem dX8_readTenant_92 : decode cX8_readTenant 92 = .ok (.invokevirtual 133, 3) := by decide +kernel
theorem dX8_readTenant_95 : decode cX8_readTenant 95 = .ok (.aload_n 1, 1) := by decide +kernel
theorem dX8_readTenant_96 : decode cX8_readTenant 96 = .ok (.getfield 150, 3) := by decide +kernel
theorem dX8_readTenant_99 : decode cX8_readTenant 99 = .ok (.iload_n 2, 1) := by decide +kernel
theorem dX8_readTenant_100 : decode cX8_readTenant 100 = .ok (.aload_n 0, 1) := by decide +kernel
theorem dX8_readTenant_101 : decode cX8_readTenant 101 = .ok (.iconst 0, 1) := by decide +kernel
theorem dX8_readTenant_102 : decode cX8_readTenant 102 = .ok (.sipush 999, 3) := by decide +kernel
theorem dX8_readTenant_105 : decode cX8_readTenant 105 = .ok (.invokevirtual 86, 3) := by decide +kernel
theorem dX8_readTenant_108 : decode cX8_readTenant 108 = .ok (.iastore, 1) := by decide +kernel
theorem dX8_readTenant_109 : decode cX8_readTenant 109 = .ok (.aload_n 0, 1) := by decide +kernel
theorem dX8_readTenant_110 : decode cX8_readTenant 110 = .ok (.ldc 152, 2) := by decide +kernel
theorem dX8_readTenant_112 : decode cX8_readTenant 112 = .ok (.invokevirtual 58, 3) := by decide +kernel
theorem dX8_readTenant_115 : decode cX8_readTenant 115 = .ok (.ifCond .eq 20, 3) := by decide +kernel
theorem dX8_readTenant_118 : decode cX8_readTenant 118 = .ok (.aload_n 0, 1) := by decide +kernel
theorem dX8_readTenant_119 : decode cX8_readTenant 119 = .ok (.invokevirtual 85, 3) := by decide +kernel
theorem dX8_readTenant_122 : decode cX8_readTenant 122 = .ok (.aload_n 1, 1) := by decide +kernel
theorem dX8_readTenant_123 : decode cX8_readTenant 123 = .ok (.getfield 154, 3) := by decide +kernel
theorem dX8_readTenant_126 : decode cX8_readTenant 126 = .ok (.iload_n 2, 1) := by decide +kernel
theorem dX8_readTenant_127 : decode cX8_readTenant 127 = .ok (.aload_n 0, 1) := by decide +kernel
theorem dX8_readTenant_128 : decode cX8_readTenant 128 = .ok (.iconst 0, 1) := by decide +kernel
theorem dX8_readTenant_129 : decode cX8_readTenant 129 = .ok (.bipush 100, 2) := by decide +kernel
theorem dX8_readTenant_131 : decode cX8_readTenant 131 = .ok (.invokevirtual 86, 3) := by decide +kernel
theorem dX8_readTenant_134 : decode cX8_readTenant 134 = .ok (.iastore, 1) := by decide +kernel
theorem dX8_readTenant_135 : decode cX8_readTenant 135 = .ok (.aload_n 1, 1) := by decide +kernel
theorem dX8_readTenant_136 : decode cX8_readTenant 136 = .ok (.dup, 1) := by decide +kernel
theorem dX8_readTenant_137 : decode cX8_readTenant 137 = .ok (.getfield 125, 3) := by decide +kernel
theorem dX8_readTenant_140 : decode cX8_readTenant 140 = .ok (.iconst 1, 1) := by decide +kernel
theorem dX8_readTenant_141 : decode cX8_readTenant 141 = .ok (.iadd, 1) := by decide +kernel
theorem dX8_readTenant_142 : decode cX8_readTenant 142 = .ok (.putfield 125, 3) := by decide +kernel
theorem dX8_readTenant_145 : decode cX8_readTenant 145 = .ok (.return_, 1) := by decide +kernel
theorem dX8_readName_0 : decode cX8_readName 0 = .ok (.aload_n 0, 1) := by decide +kernel
theorem dX8_readName_1 : decode cX8_readName 1 = .ok (.getfield 40, 3) := by decide +kernel
theorem dX8_readName_4 : decode cX8_readName 4 = .ok (.invokevirtual 156, 3) := by decide +kernel
theorem dX8_readName_7 : decode cX8_readName 7 = .ok (.ifCond .ne 9, 3) := by decide +kernel
theorem dX8_readName_10 : decode cX8_readName 10 = .ok (.aload_n 0, 1) := by decide +kernel
theorem dX8_readName_11 : decode cX8_readName 11 = .ok (.iconst 2, 1) := by decide +kernel
theorem dX8_readName_12 : decode cX8_readName 12 = .ok (.invokevirtual 82, 3) := by decide +kernel
theorem dX8_readName_15 : decode cX8_readName 15 = .ok (.return_, 1) := by decide +kernel
theorem dX8_readName_16 : decode cX8_readName 16 = .ok (.iconst 0, 1) := by decide +kernel
theorem dX8_readName_17 : decode cX8_readName 17 = .ok (.istore_n 2, 1) := by decide +kernel
theorem dX8_readName_18 : decode cX8_readName 18 = .ok (.iload_n 2, 1) := by decide +kernel
theorem dX8_readName_19 : decode cX8_readName 19 = .ok (.iload_n 1, 1) := by decide +kernel
theorem dX8_readName_20 : decode cX8_readName 20 = .ok (.if_icmp .ge 37, 3) := by decide +kernel
theorem dX8_readName_23 : decode cX8_readName 23 = .ok (.iload_n 2, 1) := by decide +kernel
theorem dX8_readName_24 : decode cX8_readName 24 = .ok (.bipush 8, 2) := by decide +kernel
theorem dX8_readName_26 : decode cX8_readName 26 = .ok (.if_icmp .ge 31, 3) := by decide +kernel
theorem dX8_readName_29 : decode cX8_readName 29 = .ok (.aload_n 0, 1) := by decide +kernel
theorem dX8_readName_30 : decode cX8_readName 30 = .ok (.getfield 9, 3) := by decide +kernel
theorem dX8_readName_33 : decode cX8_readName 33 = .ok (.iload_n 2, 1) := by decide +kernel
theorem dX8_readName_34 : decode cX8_readName 34 = .ok (.laload, 1) := by decide +kernel
theorem dX8_readName_35 : decode cX8_readName 35 = .ok (.aload_n 0, 1) := by decide +kernel
theorem dX8_readName_36 : decode cX8_readName 36 = .ok (.getfield 40, 3) := by decide +kernel
theorem dX8_readName_39 : decode cX8_readName 39 = .ok (.getfield 159, 3) := by decide +kernel
theorem dX8_readName_42 : decode cX8_readName 42 = .ok (.lcmp, 1) := by decide +kernel
theorem dX8_readName_43 : decode cX8_readName 43 = .ok (.ifCond .ne 8, 3) := by decide +kernel
theorem dX8_readName_46 : decode cX8_readName 46 = .ok (.aload_n 0, 1) := by decide +kernel
theorem dX8_readName_47 : decode cX8_readName 47 = .ok (.iconst 3, 1) := by decide +kernel
theorem dX8_readName_48 : decode cX8_readName 48 = .ok (.invokevirtual 82, 3) := by decide +kernel
theorem dX8_readName_51 : decode cX8_readName 51 = .ok (.iinc 2 1, 3) := by decide +kernel
theorem dX8_readName_54 : decode cX8_readName 54 = .ok (.goto (-36), 3) := by decide +kernel
theorem dX8_readName_57 : decode cX8_readName 57 = .ok (.iload_n 1, 1) := by decide +kernel
theorem dX8_readName_58 : decode cX8_readName 58 = .ok (.ifCond .lt 22, 3) := by decide +kernel
theorem dX8_readName_61 : decode cX8_readName 61 = .ok (.iload_n 1, 1) := by decide +kernel
theorem dX8_readName_62 : decode cX8_readName 62 = .ok (.bipush 8, 2) := by decide +kernel
theorem dX8_readName_64 : decode cX8_readName 64 = .ok (.if_icmp .ge 16, 3) := by decide +kernel
theorem dX8_readName_67 : decode cX8_readName 67 = .ok (.aload_n 0, 1) := by decide +kernel
theorem dX8_readName_68 : decode cX8_readName 68 = .ok (.getfield 9, 3) := by decide +kernel
theorem dX8_readName_71 : decode cX8_readName 71 = .ok (.iload_n 1, 1) := by decide +kernel
theorem dX8_readName_72 : decode cX8_readName 72 = .ok (.aload_n 0, 1) := by decide +kernel
theorem dX8_readName_73 : decode cX8_readName 73 = .ok (.getfield 40, 3) := by decide +kernel
theorem dX8_readName_76 : decode cX8_readName 76 = .ok (.getfield 159, 3) := by decide +kernel
theorem dX8_readName_79 : decode cX8_readName 79 = .ok (.lastore, 1) := by decide +kernel
theorem dX8_readName_80 : decode cX8_readName 80 = .ok (.aload_n 0, 1) := by decide +kernel
theorem dX8_readName_81 : decode cX8_readName 81 = .ok (.invokevirtual 85, 3) := by decide +kernel
theorem dX8_readName_84 : decode cX8_readName 84 = .ok (.return_, 1) := by decide +kernel
theorem dX8_readWord_0 : decode cX8_readWord 0 = .ok (.aload_n 0, 1) := by decide +kernel
theorem dX8_readWord_1 : decode cX8_readWord 1 = .ok (.getfield 40, 3) := by decide +kernel
theorem dX8_readWord_4 : decode cX8_readWord 4 = .ok (.aload_n 1, 1) := by decide +kernel
theorem dX8_readWord_5 : decode cX8_readWord 5 = .ok (.invokevirtual 102, 3) := by decide +kernel
theorem dX8_readWord_8 : decode cX8_readWord 8 = .ok (.ifCond .ne 8, 3) := by decide +kernel
theorem dX8_readWord_11 : decode cX8_readWord 11 = .ok (.aload_n 0, 1) := by decide +kernel
theorem dX8_readWord_12 : decode cX8_readWord 12 = .ok (.iconst 2, 1) := by decide +kernel
theorem dX8_readWord_13 : decode cX8_readWord 13 = .ok (.invokevirtual 82, 3) := by decide +kernel
theorem dX8_readWord_16 : decode cX8_readWord 16 = .ok (.aload_n 0, 1) := by decide +kernel
theorem dX8_readWord_17 : decode cX8_readWord 17 = .ok (.invokevirtual 85, 3) := by decide +kernel
theorem dX8_readWord_20 : decode cX8_readWord 20 = .ok (.return_, 1) := by decide +kernel
theorem dX8_readNumber_0 : decode cX8_readNumber 0 = .ok (.aload_n 0, 1) := by decide +kernel
theorem dX8_readNumber_1 : decode cX8_readNumber 1 = .ok (.getfield 40, 3) := by decide +kernel
theorem dX8_readNumber_4 : decode cX8_readNumber 4 = .ok (.getfield 163, 3) := by decide +kernel
theorem dX8_readNumber_7 : decode cX8_readNumber 7 = .ok (.istore_n 3, 1) := by decide +kernel
theorem dX8_readNumber_8 : decode cX8_readNumber 8 = .ok (.aload_n 0, 1) := by decide +kernel
theorem dX8_readNumber_9 : decode cX8_readNumber 9 = .ok (.getfield 40, 3) := by decide +kernel
theorem dX8_readNumber_12 : decode cX8_readNumber 12 = .ok (.getfield 73, 3) := by decide +kernel
theorem dX8_readNumber_15 : decode cX8_readNumber 15 = .ok (.iconst 3, 1) := by decide +kernel
theorem dX8_readNumber_16 : decode cX8_readNumber 16 = .ok (.if_icmp .eq 11, 3) := by decide +kernel
theorem dX8_readNumber_19 : decode cX8_readNumber 19 = .ok (.aload_n 0, 1) := by decide +kernel
theorem dX8_readNumber_20 : decode cX8_readNumber 20 = .ok (.iconst 2, 1) := by decide +kernel
theorem dX8_readNumber_21 : decode cX8_readNumber 21 = .ok (.invokevirtual 82, 3) := by decide +kernel
theorem dX8_readNumber_24 : decode cX8_readNumber 24 = .ok (.goto 18, 3) := by decide +kernel
theorem dX8_readNumber_27 : decode cX8_readNumber 27 = .ok (.iload_n 3, 1) := by decide +kernel
theorem dX8_readNumber_28 : decode cX8_readNumber 28 = .ok (.iload_n 1, 1) := by decide +kernel
theorem dX8_readNumber_29 : decode cX8_readNumber 29 = .ok (.if_icmp .lt 8, 3) := by decide +kernel
theorem dX8_readNumber_32 : decode cX8_readNumber 32 = .ok (.iload_n 3, 1) := by decide +kernel
theorem dX8_readNumber_33 : decode cX8_readNumber 33 = .ok (.iload_n 2, 1) := by decide +kernel
theorem dX8_readNumber_34 : decode cX8_readNumber 34 = .ok (.if_icmp .le 8, 3) := by decide +kernel
theorem dX8_readNumber_37 : decode cX8_readNumber 37 = .ok (.aload_n 0, 1) := by decide +kernel
theorem dX8_readNumber_38 : decode cX8_readNumber 38 = .ok (.iconst 4, 1) := by decide +kernel
theorem dX8_readNumber_39 : decode cX8_readNumber 39 = .ok (.invokevirtual 82, 3) := by decide +kernel
theorem dX8_readNumber_42 : decode cX8_readNumber 42 = .ok (.aload_n 0, 1) := by decide +kernel
theorem dX8_readNumber_43 : decode cX8_readNumber 43 = .ok (.invokevirtual 85, 3) := by decide +kernel
theorem dX8_readNumber_46 : decode cX8_readNumber 46 = .ok (.iload_n 3, 1) := by decide +kernel
theorem dX8_readNumber_47 : decode cX8_readNumber 47 = .ok (.ireturn, 1) := by decide +kernel
theorem dX8_readSign_0 : decode cX8_readSign 0 = .ok (.aload_n 0, 1) := by decide +kernel
theorem dX8_readSign_1 : decode cX8_readSign 1 = .ok (.getfield 40, 3) := by decide +kernel
theorem dX8_readSign_4 : decode cX8_readSign 4 = .ok (.iload_n 1, 1) := by decide +kernel
theorem dX8_readSign_5 : decode cX8_readSign 5 = .ok (.invokevirtual 166, 3) := by decide +kernel
theorem dX8_readSign_8 : decode cX8_readSign 8 = .ok (.ifCond .ne 8, 3) := by decide +kernel
theorem dX8_readSign_11 : decode cX8_readSign 11 = .ok (.aload_n 0, 1) := by decide +kernel
theorem dX8_readSign_12 : decode cX8_readSign 12 = .ok (.iconst 2, 1) := by decide +kernel
theorem dX8_readSign_13 : decode cX8_readSign 13 = .ok (.invokevirtual 82, 3) := by decide +kernel
theorem dX8_readSign_16 : decode cX8_readSign 16 = .ok (.aload_n 0, 1) := by decide +kernel
theorem dX8_readSign_17 : decode cX8_readSign 17 = .ok (.invokevirtual 85, 3) := by decide +kernel
theorem dX8_readSign_20 : decode cX8_readSign 20 = .ok (.return_, 1) := by decide +kernel
theorem dX8_isNext_0 : decode cX8_isNext 0 = .ok (.aload_n 0, 1) := by decide +kernel
theorem dX8_isNext_1 : decode cX8_isNext 1 = .ok (.getfield 29, 3) := by decide +kernel
theorem dX8_isNext_4 : decode cX8_isNext 4 = .ok (.ifCond .ne 18, 3) := by decide +kernel
theorem dX8_isNext_7 : decode cX8_isNext 7 = .ok (.aload_n 0, 1) := by decide +kernel
theorem dX8_isNext_8 : decode cX8_isNext 8 = .ok (.getfield 40, 3) := by decide +kernel
theorem dX8_isNext_11 : decode cX8_isNext 11 = .ok (.aload_n 1, 1) := by decide +kernel
theorem dX8_isNext_12 : decode cX8_isNext 12 = .ok (.invokevirtual 102, 3) := by decide +kernel
theorem dX8_isNext_15 : decode cX8_isNext 15 = .ok (.ifCond .eq 7, 3) := by decide +kernel
theorem dX8_isNext_18 : decode cX8_isNext 18 = .ok (.iconst 1, 1) := by decide +kernel
theorem dX8_isNext_19 : decode cX8_isNext 19 = .ok (.goto 4, 3) := by decide +kernel
theorem dX8_isNext_22 : decode cX8_isNext 22 = .ok (.iconst 0, 1) := by decide +kernel
theorem dX8_isNext_23 : decode cX8_isNext 23 = .ok (.ireturn, 1) := by decide +kernel
theorem dX8_isNextSign_0 : decode cX8_isNextSign 0 = .ok (.aload_n 0, 1) := by decide +kernel
theorem dX8_isNextSign_1 : decode cX8_isNextSign 1 = .ok (.getfield 29, 3) := by decide +kernel
theorem dX8_isNextSign_4 : decode cX8_isNextSign 4 = .ok (.ifCond .ne 18, 3) := by decide +kernel
theorem dX8_isNextSign_7 : decode cX8_isNextSign 7 = .ok (.aload_n 0, 1) := by decide +kernel
theorem dX8_isNextSign_8 : decode cX8_isNextSign 8 = .ok (.getfield 40, 3) := by decide +kernel
theorem dX8_isNextSign_11 : decode cX8_isNextSign 11 = .ok (.iload_n 1, 1) := by decide +kernel
theorem dX8_isNextSign_12 : decode cX8_isNextSign 12 = .ok (.invokevirtual 166, 3) := by decide +kernel
theorem dX8_isNextSign_15 : decode cX8_isNextSign 15 = .ok (.ifCond .eq 7, 3) := by decide +kernel
theorem dX8_isNextSign_18 : decode cX8_isNextSign 18 = .ok (.iconst 1, 1) := by decide +kernel
theorem dX8_isNextSign_19 : decode cX8_isNextSign 19 = .ok (.goto 4, 3) := by decide +kernel
theorem dX8_isNextSign_22 : decode cX8_isNextSign 22 = .ok (.iconst 0, 1) := by decide +kernel
theorem dX8_isNextSign_23 : decode cX8_isNextSign 23 = .ok (.ireturn, 1) := by decide +kernel
theorem dX8_readFormula_0 : decode cX8_readFormula 0 = .ok (.aload_n 2, 1) := by decide +kernel
theorem dX8_readFormula_1 : decode cX8_readFormula 1 = .ok (.invokevirtual 170, 3) := by decide +kernel
theorem dX8_readFormula_4 : decode cX8_readFormula 4 = .ok (.aload_n 0, 1) := by decide +kernel
theorem dX8_readFormula_5 : decode cX8_readFormula 5 = .ok (.iconst 0, 1) := by decide +kernel
theorem dX8_readFormula_6 : decode cX8_readFormula 6 = .ok (.putfield 15, 3) := by decide +kernel
theorem dX8_readFormula_9 : decode cX8_readFormula 9 = .ok (.aload_n 0, 1) := by decide +kernel
theorem dX8_readFormula_10 : decode cX8_readFormula 10 = .ok (.invokevirtual 85, 3) := by decide +kernel
theorem dX8_readFormula_13 : decode cX8_readFormula 13 = .ok (.aload_n 0, 1) := by decide +kernel
theorem dX8_readFormula_14 : decode cX8_readFormula 14 = .ok (.aload_n 2, 1) := by decide +kernel
theorem dX8_readFormula_15 : decode cX8_readFormula 15 = .ok (.iconst 0, 1) := by decide +kernel
theorem dX8_readFormula_16 : decode cX8_readFormula 16 = .ok (.invokevirtual 173, 3) := by decide +kernel
theorem dX8_readFormula_19 : decode cX8_readFormula 19 = .ok (.aload_n 1, 1) := by decide +kernel
theorem dX8_readFormula_20 : decode cX8_readFormula 20 = .ok (.dup, 1) := by decide +kernel
theorem dX8_readFormula_21 : decode cX8_readFormula 21 = .ok (.getfield 177, 3) := by decide +kernel
theorem dX8_readFormula_24 : decode cX8_readFormula 24 = .ok (.aload_n 0, 1) := by decide +kernel
theorem dX8_readFormula_25 : decode cX8_readFormula 25 = .ok (.getfield 15, 3) := by decide +kernel
theorem dX8_readFormula_28 : decode cX8_readFormula 28 = .ok (.iadd, 1) := by decide +kernel
theorem dX8_readFormula_29 : decode cX8_readFormula 29 = .ok (.putfield 177, 3) := by decide +kernel
theorem dX8_readFormula_32 : decode cX8_readFormula 32 = .ok (.return_, 1) := by decide +kernel
theorem dX8_readEither_0 : decode cX8_readEither 0 = .ok (.aload_n 0, 1) := by decide +kernel
theorem dX8_readEither_1 : decode cX8_readEither 1 = .ok (.aload_n 1, 1) := by decide +kernel
theorem dX8_readEither_2 : decode cX8_readEither 2 = .ok (.iload_n 2, 1) := by decide +kernel
theorem dX8_readEither_3 : decode cX8_readEither 3 = .ok (.invokevirtual 178, 3) := by decide +kernel
theorem dX8_readEither_6 : decode cX8_readEither 6 = .ok (.iconst 0, 1) := by decide +kernel
theorem dX8_readEither_7 : decode cX8_readEither 7 = .ok (.istore_n 3, 1) := by decide +kernel
theorem dX8_readEither_8 : decode cX8_readEither 8 = .ok (.iload_n 3, 1) := by decide +kernel
theorem dX8_readEither_9 : decode cX8_readEither 9 = .ok (.bipush 30, 2) := by decide +kernel
theorem dX8_readEither_11 : decode cX8_readEither 11 = .ok (.if_icmp .ge 34, 3) := by decide +kernel
theorem dX8_readEither_14 : decode cX8_readEither 14 = .ok (.aload_n 0, 1) := by decide +kernel
theorem dX8_readEither_15 : decode cX8_readEither 15 = .ok (.ldc 181, 2) := by decide +kernel
theorem dX8_readEither_17 : decode cX8_readEither 17 = .ok (.invokevirtual 58, 3) := by decide +kernel
theorem dX8_readEither_20 : decode cX8_readEither 20 = .ok (.ifCond .eq 25, 3) := by decide +kernel
theorem dX8_readEither_23 : decode cX8_readEither 23 = .ok (.aload_n 0, 1) := by decide +kernel
theorem dX8_readEither_24 : decode cX8_readEither 24 = .ok (.invokevirtual 85, 3) := by decide +kernel
theorem dX8_readEither_27 : decode cX8_readEither 27 = .ok (.aload_n 0, 1) := by decide +kernel
theorem dX8_readEither_28 : decode cX8_readEither 28 = .ok (.aload_n 1, 1) := by decide +kernel
theorem dX8_readEither_29 : decode cX8_readEither 29 = .ok (.iload_n 2, 1) := by decide +kernel
theorem dX8_readEither_30 : decode cX8_readEither 30 = .ok (.invokevirtual 178, 3) := by decide +kernel
theorem dX8_readEither_33 : decode cX8_readEither 33 = .ok (.aload_n 1, 1) := by decide +kernel
theorem dX8_readEither_34 : decode cX8_readEither 34 = .ok (.bipush 124, 2) := by decide +kernel
theorem dX8_readEither_36 : decode cX8_readEither 36 = .ok (.invokevirtual 183, 3) := by decide +kernel
theorem dX8_readEither_39 : decode cX8_readEither 39 = .ok (.iinc 3 1, 3) := by decide +kernel
theorem dX8_readEither_42 : decode cX8_readEither 42 = .ok (.goto (-34), 3) := by decide +kernel
theorem dX8_readEither_45 : decode cX8_readEither 45 = .ok (.return_, 1) := by decide +kernel
theorem dX8_readBoth_0 : decode cX8_readBoth 0 = .ok (.aload_n 0, 1) := by decide +kernel
theorem dX8_readBoth_1 : decode cX8_readBoth 1 = .ok (.aload_n 1, 1) := by decide +kernel
theorem dX8_readBoth_2 : decode cX8_readBoth 2 = .ok (.iload_n 2, 1) := by decide +kernel
theorem dX8_readBoth_3 : decode cX8_readBoth 3 = .ok (.invokevirtual 186, 3) := by decide +kernel
theorem dX8_readBoth_6 : decode cX8_readBoth 6 = .ok (.iconst 0, 1) := by decide +kernel
theorem dX8_readBoth_7 : decode cX8_readBoth 7 = .ok (.istore_n 3, 1) := by decide +kernel
theorem dX8_readBoth_8 : decode cX8_readBoth 8 = .ok (.iload_n 3, 1) := by decide +kernel
theorem dX8_readBoth_9 : decode cX8_readBoth 9 = .ok (.bipush 30, 2) := by decide +kernel
theorem dX8_readBoth_11 : decode cX8_readBoth 11 = .ok (.if_icmp .ge 34, 3) := by decide +kernel
theorem dX8_readBoth_14 : decode cX8_readBoth 14 = .ok (.aload_n 0, 1) := by decide +kernel
theorem dX8_readBoth_15 : decode cX8_readBoth 15 = .ok (.ldc 189, 2) := by decide +kernel
theorem dX8_readBoth_17 : decode cX8_readBoth 17 = .ok (.invokevirtual 58, 3) := by decide +kernel
theorem dX8_readBoth_20 : decode cX8_readBoth 20 = .ok (.ifCond .eq 25, 3) := by decide +kernel
theorem dX8_readBoth_23 : decode cX8_readBoth 23 = .ok (.aload_n 0, 1) := by decide +kernel
theorem dX8_readBoth_24 : decode cX8_readBoth 24 = .ok (.invokevirtual 85, 3) := by decide +kernel
theorem dX8_readBoth_27 : decode cX8_readBoth 27 = .ok (.aload_n 0, 1) := by decide +kernel
theorem dX8_readBoth_28 : decode cX8_readBoth 28 = .ok (.aload_n 1, 1) := by decide +kernel
theorem dX8_readBoth_29 : decode cX8_readBoth 29 = .ok (.iload_n 2, 1) := by decide +kernel
theorem dX8_readBoth_30 : decode cX8_readBoth 30 = .ok (.invokevirtual 186, 3) := by decide +kernel
theorem dX8_readBoth_33 : decode cX8_readBoth 33 = .ok (.aload_n 1, 1) := by decide +kernel
theorem dX8_readBoth_34 : decode cX8_readBoth 34 = .ok (.bipush 38, 2) := by decide +kernel
theorem dX8_readBoth_36 : decode cX8_readBoth 36 = .ok (.invokevirtual 183, 3) := by decide +kernel
theorem dX8_readBoth_39 : decode cX8_readBoth 39 = .ok (.iinc 3 1, 3) := by decide +kernel
theorem dX8_readBoth_42 : decode cX8_readBoth 42 = .ok (.goto (-34), 3) := by decide +kernel
theorem dX8_readBoth_45 : decode cX8_readBoth 45 = .ok (.return_, 1) := by decide +kernel
theorem dX8_readOne_0 : decode cX8_readOne 0 = .ok (.aload_n 0, 1) := by decide +kernel
theorem dX8_readOne_1 : decode cX8_readOne 1 = .ok (.ldc 191, 2) := by decide +kernel
theorem dX8_readOne_3 : decode cX8_readOne 3 = .ok (.invokevirtual 58, 3) := by decide +kernel
theorem dX8_readOne_6 : decode cX8_readOne 6 = .ok (.ifCond .ne 12, 3) := by decide +kernel
theorem dX8_readOne_9 : decode cX8_readOne 9 = .ok (.aload_n 0, 1) := by decide +kernel
theorem dX8_readOne_10 : decode cX8_readOne 10 = .ok (.aload_n 1, 1) := by decide +kernel
theorem dX8_readOne_11 : decode cX8_readOne 11 = .ok (.iload_n 2, 1) := by decide +kernel
theorem dX8_readOne_12 : decode cX8_readOne 12 = .ok (.invokevirtual 193, 3) := by decide +kernel
theorem dX8_readOne_15 : decode cX8_readOne 15 = .ok (.goto 35, 3) := by decide +kernel
theorem dX8_readOne_18 : decode cX8_readOne 18 = .ok (.iload_n 2, 1) := by decide +kernel
theorem dX8_readOne_19 : decode cX8_readOne 19 = .ok (.bipush 6, 2) := by decide +kernel
theorem dX8_readOne_21 : decode cX8_readOne 21 = .ok (.if_icmp .le 11, 3) := by decide +kernel
theorem dX8_readOne_24 : decode cX8_readOne 24 = .ok (.aload_n 0, 1) := by decide +kernel
theorem dX8_readOne_25 : decode cX8_readOne 25 = .ok (.iconst 2, 1) := by decide +kernel
theorem dX8_readOne_26 : decode cX8_readOne 26 = .ok (.invokevirtual 82, 3) := by decide +kernel
theorem dX8_readOne_29 : decode cX8_readOne 29 = .ok (.goto 21, 3) := by decide +kernel
theorem dX8_readOne_32 : decode cX8_readOne 32 = .ok (.aload_n 0, 1) := by decide +kernel
theorem dX8_readOne_33 : decode cX8_readOne 33 = .ok (.invokevirtual 85, 3) := by decide +kernel
theorem dX8_readOne_36 : decode cX8_readOne 36 = .ok (.aload_n 0, 1) := by decide +kernel
theorem dX8_readOne_37 : decode cX8_readOne 37 = .ok (.aload_n 1, 1) := by decide +kernel
theorem dX8_readOne_38 : decode cX8_readOne 38 = .ok (.iload_n 2, 1) := by decide +kernel
theorem dX8_readOne_39 : decode cX8_readOne 39 = .ok (.iconst 1, 1) := by decide +kernel
theorem dX8_readOne_40 : decode cX8_readOne 40 = .ok (.iadd, 1) := by decide +kernel
theorem dX8_readOne_41 : decode cX8_readOne 41 = .ok (.invokevirtual 186, 3) := by decide +kernel
theorem dX8_readOne_44 : decode cX8_readOne 44 = .ok (.aload_n 1, 1) := by decide +kernel
theorem dX8_readOne_45 : decode cX8_readOne 45 = .ok (.bipush 7, 2) := by decide +kernel
theorem dX8_readOne_47 : decode cX8_readOne 47 = .ok (.invokevirtual 183, 3) := by decide +kernel
theorem dX8_readOne_50 : decode cX8_readOne 50 = .ok (.return_, 1) := by decide +kernel
theorem dX8_readRelation_0 : decode cX8_readRelation 0 = .ok (.aload_n 0, 1) := by decide +kernel
theorem dX8_readRelation_1 : decode cX8_readRelation 1 = .ok (.aload_n 1, 1) := by decide +kernel
theorem dX8_readRelation_2 : decode cX8_readRelation 2 = .ok (.iload_n 2, 1) := by decide +kernel
theorem dX8_readRelation_3 : decode cX8_readRelation 3 = .ok (.invokevirtual 196, 3) := by decide +kernel
theorem dX8_readRelation_6 : decode cX8_readRelation 6 = .ok (.aload_n 0, 1) := by decide +kernel
theorem dX8_readRelation_7 : decode cX8_readRelation 7 = .ok (.getfield 40, 3) := by decide +kernel
theorem dX8_readRelation_10 : decode cX8_readRelation 10 = .ok (.getfield 199, 3) := by decide +kernel
theorem dX8_readRelation_13 : decode cX8_readRelation 13 = .ok (.istore_n 3, 1) := by decide +kernel
theorem dX8_readRelation_14 : decode cX8_readRelation 14 = .ok (.aload_n 0, 1) := by decide +kernel
theorem dX8_readRelation_15 : decode cX8_readRelation 15 = .ok (.bipush 60, 2) := by decide +kernel
theorem dX8_readRelation_17 : decode cX8_readRelation 17 = .ok (.invokevirtual 202, 3) := by decide +kernel
theorem dX8_readRelation_20 : decode cX8_readRelation 20 = .ok (.ifCond .ne 21, 3) := by decide +kernel
theorem dX8_readRelation_23 : decode cX8_readRelation 23 = .ok (.aload_n 0, 1) := by decide +kernel
theorem dX8_readRelation_24 : decode cX8_readRelation 24 = .ok (.bipush 62, 2) := by decide +kernel
theorem dX8_readRelation_26 : decode cX8_readRelation 26 = .ok (.invokevirtual 202, 3) := by decide +kernel
theorem dX8_readRelation_29 : decode cX8_readRelation 29 = .ok (.ifCond .ne 12, 3) := by decide +kernel
theorem dX8_readRelation_32 : decode cX8_readRelation 32 = .ok (.aload_n 0, 1) := by decide +kernel
theorem dX8_readRelation_33 : decode cX8_readRelation 33 = .ok (.bipush 61, 2) := by decide +kernel
theorem dX8_readRelation_35 : decode cX8_readRelation 35 = .ok (.invokevirtual 202, 3) := by decide +kernel
theorem dX8_readRelation_38 : decode cX8_readRelation 38 = .ok (.ifCond .eq 18, 3) := by decide +kernel
theorem dX8_readRelation_41 : decode cX8_readRelation 41 = .ok (.aload_n 0, 1) := by decide +kernel
theorem dX8_readRelation_42 : decode cX8_readRelation 42 = .ok (.invokevirtual 85, 3) := by decide +kernel
theorem dX8_readRelation_45 : decode cX8_readRelation 45 = .ok (.aload_n 0, 1) := by decide +kernel
theorem dX8_readRelation_46 : decode cX8_readRelation 46 = .ok (.aload_n 1, 1) := by decide +kernel
theorem dX8_readRelation_47 : decode cX8_readRelation 47 = .ok (.iload_n 2, 1) := by decide +kernel
theorem dX8_readRelation_48 : decode cX8_readRelation 48 = .ok (.invokevirtual 196, 3) := by decide +kernel
theorem dX8_readRelation_51 : decode cX8_readRelation 51 = .ok (.aload_n 1, 1) := by decide +kernel
theorem dX8_readRelation_52 : decode cX8_readRelation 52 = .ok (.iload_n 3, 1) := by decide +kernel
theorem dX8_readRelation_53 : decode cX8_readRelation 53 = .ok (.invokevirtual 183, 3) := by decide +kernel
theorem dX8_readRelation_56 : decode cX8_readRelation 56 = .ok (.return_, 1) := by decide +kernel
theorem dX8_readSum_0 : decode cX8_readSum 0 = .ok (.aload_n 0, 1) := by decide +kernel
theorem dX8_readSum_1 : decode cX8_readSum 1 = .ok (.aload_n 1, 1) := by decide +kernel
theorem dX8_readSum_2 : decode cX8_readSum 2 = .ok (.iload_n 2, 1) := by decide +kernel
theorem dX8_readSum_3 : decode cX8_readSum 3 = .ok (.invokevirtual 205, 3) := by decide +kernel
theorem dX8_readSum_6 : decode cX8_readSum 6 = .ok (.iconst 0, 1) := by decide +kernel
theorem dX8_readSum_7 : decode cX8_readSum 7 = .ok (.istore_n 3, 1) := by decide +kernel
theorem dX8_readSum_8 : decode cX8_readSum 8 = .ok (.iload_n 3, 1) := by decide +kernel
theorem dX8_readSum_9 : decode cX8_readSum 9 = .ok (.bipush 30, 2) := by decide +kernel
theorem dX8_readSum_11 : decode cX8_readSum 11 = .ok (.if_icmp .ge 52, 3) := by decide +kernel
theorem dX8_readSum_14 : decode cX8_readSum 14 = .ok (.aload_n 0, 1) := by decide +kernel
theorem dX8_readSum_15 : decode cX8_readSum 15 = .ok (.bipush 43, 2) := by decide +kernel
theorem dX8_readSum_17 : decode cX8_readSum 17 = .ok (.invokevirtual 202, 3) := by decide +kernel
theorem dX8_readSum_20 : decode cX8_readSum 20 = .ok (.ifCond .ne 12, 3) := by decide +kernel
theorem dX8_readSum_23 : decode cX8_readSum 23 = .ok (.aload_n 0, 1) := by decide +kernel
theorem dX8_readSum_24 : decode cX8_readSum 24 = .ok (.bipush 45, 2) := by decide +kernel
theorem dX8_readSum_26 : decode cX8_readSum 26 = .ok (.invokevirtual 202, 3) := by decide +kernel
theorem dX8_readSum_29 : decode cX8_readSum 29 = .ok (.ifCond .eq 34, 3) := by decide +kernel
theorem dX8_readSum_32 : decode cX8_readSum 32 = .ok (.aload_n 0, 1) := by decide +kernel
theorem dX8_readSum_33 : decode cX8_readSum 33 = .ok (.getfield 40, 3) := by decide +kernel
theorem dX8_readSum_36 : decode cX8_readSum 36 = .ok (.getfield 199, 3) := by decide +kernel
theorem dX8_readSum_39 : decode cX8_readSum 39 = .ok (.istore 4, 2) := by decide +kernel
theorem dX8_readSum_41 : decode cX8_readSum 41 = .ok (.aload_n 0, 1) := by decide +kernel
theorem dX8_readSum_42 : decode cX8_readSum 42 = .ok (.invokevirtual 85, 3) := by decide +kernel
theorem dX8_readSum_45 : decode cX8_readSum 45 = .ok (.aload_n 0, 1) := by decide +kernel
theorem dX8_readSum_46 : decode cX8_readSum 46 = .ok (.aload_n 1, 1) := by decide +kernel
theorem dX8_readSum_47 : decode cX8_readSum 47 = .ok (.iload_n 2, 1) := by decide +kernel
theorem dX8_readSum_48 : decode cX8_readSum 48 = .ok (.invokevirtual 205, 3) := by decide +kernel
theorem dX8_readSum_51 : decode cX8_readSum 51 = .ok (.aload_n 1, 1) := by decide +kernel
theorem dX8_readSum_52 : decode cX8_readSum 52 = .ok (.iload 4, 2) := by decide +kernel
theorem dX8_readSum_54 : decode cX8_readSum 54 = .ok (.invokevirtual 183, 3) := by decide +kernel
theorem dX8_readSum_57 : decode cX8_readSum 57 = .ok (.iinc 3 1, 3) := by decide +kernel
theorem dX8_readSum_60 : decode cX8_readSum 60 = .ok (.goto (-52), 3) := by decide +kernel
theorem dX8_readSum_63 : decode cX8_readSum 63 = .ok (.return_, 1) := by decide +kernel
theorem dX8_readTerm_0 : decode cX8_readTerm 0 = .ok (.aload_n 0, 1) := by decide +kernel
theorem dX8_readTerm_1 : decode cX8_readTerm 1 = .ok (.aload_n 1, 1) := by decide +kernel
theorem dX8_readTerm_2 : decode cX8_readTerm 2 = .ok (.iload_n 2, 1) := by decide +kernel
theorem dX8_readTerm_3 : decode cX8_readTerm 3 = .ok (.invokevirtual 208, 3) := by decide +kernel
theorem dX8_readTerm_6 : decode cX8_readTerm 6 = .ok (.iconst 0, 1) := by decide +kernel
theorem dX8_readTerm_7 : decode cX8_readTerm 7 = .ok (.istore_n 3, 1) := by decide +kernel
theorem dX8_readTerm_8 : decode cX8_readTerm 8 = .ok (.iload_n 3, 1) := by decide +kernel
theorem dX8_readTerm_9 : decode cX8_readTerm 9 = .ok (.bipush 30, 2) := by decide +kernel
theorem dX8_readTerm_11 : decode cX8_readTerm 11 = .ok (.if_icmp .ge 41, 3) := by decide +kernel
theorem dX8_readTerm_14 : decode cX8_readTerm 14 = .ok (.aload_n 0, 1) := by decide +kernel
theorem dX8_readTerm_15 : decode cX8_readTerm 15 = .ok (.invokevirtual 211, 3) := by decide +kernel
theorem dX8_readTerm_18 : decode cX8_readTerm 18 = .ok (.ifCond .eq 34, 3) := by decide +kernel
theorem dX8_readTerm_21 : decode cX8_readTerm 21 = .ok (.aload_n 0, 1) := by decide +kernel
theorem dX8_readTerm_22 : decode cX8_readTerm 22 = .ok (.getfield 40, 3) := by decide +kernel
theorem dX8_readTerm_25 : decode cX8_readTerm 25 = .ok (.getfield 199, 3) := by decide +kernel
theorem dX8_readTerm_28 : decode cX8_readTerm 28 = .ok (.istore 4, 2) := by decide +kernel
theorem dX8_readTerm_30 : decode cX8_readTerm 30 = .ok (.aload_n 0, 1) := by decide +kernel
theorem dX8_readTerm_31 : decode cX8_readTerm 31 = .ok (.invokevirtual 85, 3) := by decide +kernel
theorem dX8_readTerm_34 : decode cX8_readTerm 34 = .ok (.aload_n 0, 1) := by decide +kernel
theorem dX8_readTerm_35 : decode cX8_readTerm 35 = .ok (.aload_n 1, 1) := by decide +kernel
theorem dX8_readTerm_36 : decode cX8_readTerm 36 = .ok (.iload_n 2, 1) := by decide +kernel
theorem dX8_readTerm_37 : decode cX8_readTerm 37 = .ok (.invokevirtual 208, 3) := by decide +kernel
theorem dX8_readTerm_40 : decode cX8_readTerm 40 = .ok (.aload_n 1, 1) := by decide +kernel
theorem dX8_readTerm_41 : decode cX8_readTerm 41 = .ok (.iload 4, 2) := by decide +kernel
theorem dX8_readTerm_43 : decode cX8_readTerm 43 = .ok (.invokevirtual 183, 3) := by decide +kernel
theorem dX8_readTerm_46 : decode cX8_readTerm 46 = .ok (.iinc 3 1, 3) := by decide +kernel
theorem dX8_readTerm_49 : decode cX8_readTerm 49 = .ok (.goto (-41), 3) := by decide +kernel
theorem dX8_readTerm_52 : decode cX8_readTerm 52 = .ok (.return_, 1) := by decide +kernel
theorem dX8_isNextFactor_0 : decode cX8_isNextFactor 0 = .ok (.aload_n 0, 1) := by decide +kernel
theorem dX8_isNextFactor_1 : decode cX8_isNextFactor 1 = .ok (.bipush 42, 2) := by decide +kernel
theorem dX8_isNextFactor_3 : decode cX8_isNextFactor 3 = .ok (.invokevirtual 202, 3) := by decide +kernel
theorem dX8_isNextFactor_6 : decode cX8_isNextFactor 6 = .ok (.ifCond .ne 21, 3) := by decide +kernel
theorem dX8_isNextFactor_9 : decode cX8_isNextFactor 9 = .ok (.aload_n 0, 1) := by decide +kernel
theorem dX8_isNextFactor_10 : decode cX8_isNextFactor 10 = .ok (.bipush 47, 2) := by decide +kernel
theorem dX8_isNextFactor_12 : decode cX8_isNextFactor 12 = .ok (.invokevirtual 202, 3) := by decide +kernel
theorem dX8_isNextFactor_15 : decode cX8_isNextFactor 15 = .ok (.ifCond .ne 12, 3) := by decide +kernel
theorem dX8_isNextFactor_18 : decode cX8_isNextFactor 18 = .ok (.aload_n 0, 1) := by decide +kernel
theorem dX8_isNextFactor_19 : decode cX8_isNextFactor 19 = .ok (.bipush 37, 2) := by decide +kernel
theorem dX8_isNextFactor_21 : decode cX8_isNextFactor 21 = .ok (.invokevirtual 202, 3) := by decide +kernel
theorem dX8_isNextFactor_24 : decode cX8_isNextFactor 24 = .ok (.ifCond .eq 7, 3) := by decide +kernel
theorem dX8_isNextFactor_27 : decode cX8_isNextFactor 27 = .ok (.iconst 1, 1) := by decide +kernel
theorem dX8_isNextFactor_28 : decode cX8_isNextFactor 28 = .ok (.goto 4, 3) := by decide +kernel
theorem dX8_isNextFactor_31 : decode cX8_isNextFactor 31 = .ok (.iconst 0, 1) := by decide +kernel
theorem dX8_isNextFactor_32 : decode cX8_isNextFactor 32 = .ok (.ireturn, 1) := by decide +kernel
theorem dX8_readUnit_0 : decode cX8_readUnit 0 = .ok (.aload_n 0, 1) := by decide +kernel
theorem dX8_readUnit_1 : decode cX8_readUnit 1 = .ok (.getfield 29, 3) := by decide +kernel
theorem dX8_readUnit_4 : decode cX8_readUnit 4 = .ok (.ifCond .eq 4, 3) := by decide +kernel
theorem dX8_readUnit_7 : decode cX8_readUnit 7 = .ok (.return_, 1) := by decide +kernel
theorem dX8_readUnit_8 : decode cX8_readUnit 8 = .ok (.aload_n 0, 1) := by decide +kernel
theorem dX8_readUnit_9 : decode cX8_readUnit 9 = .ok (.getfield 15, 3) := by decide +kernel
theorem dX8_readUnit_12 : decode cX8_readUnit 12 = .ok (.bipush 30, 2) := by decide +kernel
theorem dX8_readUnit_14 : decode cX8_readUnit 14 = .ok (.if_icmp .lt 9, 3) := by decide +kernel
theorem dX8_readUnit_17 : decode cX8_readUnit 17 = .ok (.aload_n 0, 1) := by decide +kernel
theorem dX8_readUnit_18 : decode cX8_readUnit 18 = .ok (.iconst 2, 1) := by decide +kernel
theorem dX8_readUnit_19 : decode cX8_readUnit 19 = .ok (.invokevirtual 82, 3) := by decide +kernel
theorem dX8_readUnit_22 : decode cX8_readUnit 22 = .ok (.return_, 1) := by decide +kernel
theorem dX8_readUnit_23 : decode cX8_readUnit 23 = .ok (.aload_n 0, 1) := by decide +kernel
theorem dX8_readUnit_24 : decode cX8_readUnit 24 = .ok (.dup, 1) := by decide +kernel
theorem dX8_readUnit_25 : decode cX8_readUnit 25 = .ok (.getfield 15, 3) := by decide +kernel
theorem dX8_readUnit_28 : decode cX8_readUnit 28 = .ok (.iconst 1, 1) := by decide +kernel
theorem dX8_readUnit_29 : decode cX8_readUnit 29 = .ok (.iadd, 1) := by decide +kernel
theorem dX8_readUnit_30 : decode cX8_readUnit 30 = .ok (.putfield 15, 3) := by decide +kernel
theorem dX8_readUnit_33 : decode cX8_readUnit 33 = .ok (.aload_n 0, 1) := by decide +kernel
theorem dX8_readUnit_34 : decode cX8_readUnit 34 = .ok (.invokevirtual 214, 3) := by decide +kernel
theorem dX8_readUnit_37 : decode cX8_readUnit 37 = .ok (.istore_n 3, 1) := by decide +kernel
theorem dX8_readUnit_38 : decode cX8_readUnit 38 = .ok (.aload_n 0, 1) := by decide +kernel
theorem dX8_readUnit_39 : decode cX8_readUnit 39 = .ok (.getfield 40, 3) := by decide +kernel
theorem dX8_readUnit_42 : decode cX8_readUnit 42 = .ok (.bipush 40, 2) := by decide +kernel
theorem dX8_readUnit_44 : decode cX8_readUnit 44 = .ok (.invokevirtual 166, 3) := by decide +kernel
theorem dX8_readUnit_47 : decode cX8_readUnit 47 = .ok (.ifCond .eq 12, 3) := by decide +kernel
theorem dX8_readUnit_50 : decode cX8_readUnit 50 = .ok (.aload_n 0, 1) := by decide +kernel
theorem dX8_readUnit_51 : decode cX8_readUnit 51 = .ok (.aload_n 1, 1) := by decide +kernel
theorem dX8_readUnit_52 : decode cX8_readUnit 52 = .ok (.iload_n 2, 1) := by decide +kernel
theorem dX8_readUnit_53 : decode cX8_readUnit 53 = .ok (.invokevirtual 218, 3) := by decide +kernel
theorem dX8_readUnit_56 : decode cX8_readUnit 56 = .ok (.goto 54, 3) := by decide +kernel
theorem dX8_readUnit_59 : decode cX8_readUnit 59 = .ok (.aload_n 0, 1) := by decide +kernel
theorem dX8_readUnit_60 : decode cX8_readUnit 60 = .ok (.getfield 40, 3) := by decide +kernel
theorem dX8_readUnit_63 : decode cX8_readUnit 63 = .ok (.getfield 73, 3) := by decide +kernel
theorem dX8_readUnit_66 : decode cX8_readUnit 66 = .ok (.iconst 3, 1) := by decide +kernel
theorem dX8_readUnit_67 : decode cX8_readUnit 67 = .ok (.if_icmp .ne 21, 3) := by decide +kernel
theorem dX8_readUnit_70 : decode cX8_readUnit 70 = .ok (.aload_n 1, 1) := by decide +kernel
theorem dX8_readUnit_71 : decode cX8_readUnit 71 = .ok (.aload_n 0, 1) := by decide +kernel
theorem dX8_readUnit_72 : decode cX8_readUnit 72 = .ok (.getfield 40, 3) := by decide +kernel
theorem dX8_readUnit_75 : decode cX8_readUnit 75 = .ok (.getfield 163, 3) := by decide +kernel
theorem dX8_readUnit_78 : decode cX8_readUnit 78 = .ok (.invokevirtual 221, 3) := by decide +kernel
theorem dX8_readUnit_81 : decode cX8_readUnit 81 = .ok (.aload_n 0, 1) := by decide +kernel
theorem dX8_readUnit_82 : decode cX8_readUnit 82 = .ok (.invokevirtual 85, 3) := by decide +kernel
theorem dX8_readUnit_85 : decode cX8_readUnit 85 = .ok (.goto 25, 3) := by decide +kernel
theorem dX8_readUnit_88 : decode cX8_readUnit 88 = .ok (.iload_n 3, 1) := by decide +kernel
theorem dX8_readUnit_89 : decode cX8_readUnit 89 = .ok (.iconst (-1), 1) := by decide +kernel
theorem dX8_readUnit_90 : decode cX8_readUnit 90 = .ok (.if_icmp .eq 15, 3) := by decide +kernel
theorem dX8_readUnit_93 : decode cX8_readUnit 93 = .ok (.aload_n 1, 1) := by decide +kernel
theorem dX8_readUnit_94 : decode cX8_readUnit 94 = .ok (.iload_n 3, 1) := by decide +kernel
theorem dX8_readUnit_95 : decode cX8_readUnit 95 = .ok (.invokevirtual 183, 3) := by decide +kernel
theorem dX8_readUnit_98 : decode cX8_readUnit 98 = .ok (.aload_n 0, 1) := by decide +kernel
theorem dX8_readUnit_99 : decode cX8_readUnit 99 = .ok (.invokevirtual 85, 3) := by decide +kernel
theorem dX8_readUnit_102 : decode cX8_readUnit 102 = .ok (.goto 8, 3) := by decide +kernel
theorem dX8_readUnit_105 : decode cX8_readUnit 105 = .ok (.aload_n 0, 1) := by decide +kernel
theorem dX8_readUnit_106 : decode cX8_readUnit 106 = .ok (.iconst 2, 1) := by decide +kernel
theorem dX8_readUnit_107 : decode cX8_readUnit 107 = .ok (.invokevirtual 82, 3) := by decide +kernel
theorem dX8_readUnit_110 : decode cX8_readUnit 110 = .ok (.return_, 1) := by decide +kernel
theorem dX8_readBracket_0 : decode cX8_readBracket 0 = .ok (.iload_n 2, 1) := by decide +kernel
theorem dX8_readBracket_1 : decode cX8_readBracket 1 = .ok (.bipush 6, 2) := by decide +kernel
theorem dX8_readBracket_3 : decode cX8_readBracket 3 = .ok (.if_icmp .le 9, 3) := by decide +kernel
theorem dX8_readBracket_6 : decode cX8_readBracket 6 = .ok (.aload_n 0, 1) := by decide +kernel
theorem dX8_readBracket_7 : decode cX8_readBracket 7 = .ok (.iconst 2, 1) := by decide +kernel
theorem dX8_readBracket_8 : decode cX8_readBracket 8 = .ok (.invokevirtual 82, 3) := by decide +kernel
theorem dX8_readBracket_11 : decode cX8_readBracket 11 = .ok (.return_, 1) := by decide +kernel
theorem dX8_readBracket_12 : decode cX8_readBracket 12 = .ok (.aload_n 0, 1) := by decide +kernel
theorem dX8_readBracket_13 : decode cX8_readBracket 13 = .ok (.invokevirtual 85, 3) := by decide +kernel
theorem dX8_readBracket_16 : decode cX8_readBracket 16 = .ok (.aload_n 0, 1) := by decide +kernel
theorem dX8_readBracket_17 : decode cX8_readBracket 17 = .ok (.aload_n 1, 1) := by decide +kernel
theorem dX8_readBracket_18 : decode cX8_readBracket 18 = .ok (.iload_n 2, 1) := by decide +kernel
theorem dX8_readBracket_19 : decode cX8_readBracket 19 = .ok (.iconst 1, 1) := by decide +kernel
theorem dX8_readBracket_20 : decode cX8_readBracket 20 = .ok (.iadd, 1) := by decide +kernel
theorem dX8_readBracket_21 : decode cX8_readBracket 21 = .ok (.invokevirtual 173, 3) := by decide +kernel
theorem dX8_readBracket_24 : decode cX8_readBracket 24 = .ok (.aload_n 0, 1) := by decide +kernel
theorem dX8_readBracket_25 : decode cX8_readBracket 25 = .ok (.bipush 41, 2) := by decide +kernel
theorem dX8_readBracket_27 : decode cX8_readBracket 27 = .ok (.invokevirtual 97, 3) := by decide +kernel
theorem dX8_readBracket_30 : decode cX8_readBracket 30 = .ok (.return_, 1) := by decide +kernel
theorem dX8_nextMeasure_0 : decode cX8_nextMeasure 0 = .ok (.aload_n 0, 1) := by decide +kernel
theorem dX8_nextMeasure_1 : decode cX8_nextMeasure 1 = .ok (.getfield 40, 3) := by decide +kernel
theorem dX8_nextMeasure_4 : decode cX8_nextMeasure 4 = .ok (.ldc 56, 2) := by decide +kernel
theorem dX8_nextMeasure_6 : decode cX8_nextMeasure 6 = .ok (.invokevirtual 102, 3) := by decide +kernel
theorem dX8_nextMeasure_9 : decode cX8_nextMeasure 9 = .ok (.ifCond .eq 5, 3) := by decide +kernel
theorem dX8_nextMeasure_12 : decode cX8_nextMeasure 12 = .ok (.iconst 1, 1) := by decide +kernel
theorem dX8_nextMeasure_13 : decode cX8_nextMeasure 13 = .ok (.ireturn, 1) := by decide +kernel
theorem dX8_nextMeasure_14 : decode cX8_nextMeasure 14 = .ok (.aload_n 0, 1) := by decide +kernel
theorem dX8_nextMeasure_15 : decode cX8_nextMeasure 15 = .ok (.getfield 40, 3) := by decide +kernel
theorem dX8_nextMeasure_18 : decode cX8_nextMeasure 18 = .ok (.ldc 144, 2) := by decide +kernel
theorem dX8_nextMeasure_20 : decode cX8_nextMeasure 20 = .ok (.invokevirtual 102, 3) := by decide +kernel
theorem dX8_nextMeasure_23 : decode cX8_nextMeasure 23 = .ok (.ifCond .eq 5, 3) := by decide +kernel
theorem dX8_nextMeasure_26 : decode cX8_nextMeasure 26 = .ok (.iconst 2, 1) := by decide +kernel
theorem dX8_nextMeasure_27 : decode cX8_nextMeasure 27 = .ok (.ireturn, 1) := by decide +kernel
theorem dX8_nextMeasure_28 : decode cX8_nextMeasure 28 = .ok (.aload_n 0, 1) := by decide +kernel
theorem dX8_nextMeasure_29 : decode cX8_nextMeasure 29 = .ok (.getfield 40, 3) := by decide +kernel
theorem dX8_nextMeasure_32 : decode cX8_nextMeasure 32 = .ok (.ldc 224, 2) := by decide +kernel
theorem dX8_nextMeasure_34 : decode cX8_nextMeasure 34 = .ok (.invokevirtual 102, 3) := by decide +kernel
theorem dX8_nextMeasure_37 : decode cX8_nextMeasure 37 = .ok (.ifCond .eq 5, 3) := by decide +kernel
theorem dX8_nextMeasure_40 : decode cX8_nextMeasure 40 = .ok (.iconst 3, 1) := by decide +kernel
theorem dX8_nextMeasure_41 : decode cX8_nextMeasure 41 = .ok (.ireturn, 1) := by decide +kernel
theorem dX8_nextMeasure_42 : decode cX8_nextMeasure 42 = .ok (.aload_n 0, 1) := by decide +kernel
theorem dX8_nextMeasure_43 : decode cX8_nextMeasure 43 = .ok (.getfield 40, 3) := by decide +kernel
theorem dX8_nextMeasure_46 : decode cX8_nextMeasure 46 = .ok (.ldc 226, 2) := by decide +kernel
theorem dX8_nextMeasure_48 : decode cX8_nextMeasure 48 = .ok (.invokevirtual 102, 3) := by decide +kernel
theorem dX8_nextMeasure_51 : decode cX8_nextMeasure 51 = .ok (.ifCond .eq 5, 3) := by decide +kernel
theorem dX8_nextMeasure_54 : decode cX8_nextMeasure 54 = .ok (.iconst 4, 1) := by decide +kernel
theorem dX8_nextMeasure_55 : decode cX8_nextMeasure 55 = .ok (.ireturn, 1) := by decide +kernel
theorem dX8_nextMeasure_56 : decode cX8_nextMeasure 56 = .ok (.aload_n 0, 1) := by decide +kernel
theorem dX8_nextMeasure_57 : decode cX8_nextMeasure 57 = .ok (.getfield 40, 3) := by decide +kernel
theorem dX8_nextMeasure_60 : decode cX8_nextMeasure 60 = .ok (.ldc 228, 2) := by decide +kernel
theorem dX8_nextMeasure_62 : decode cX8_nextMeasure 62 = .ok (.invokevirtual 102, 3) := by decide +kernel
theorem dX8_nextMeasure_65 : decode cX8_nextMeasure 65 = .ok (.ifCond .eq 5, 3) := by decide +kernel
theorem dX8_nextMeasure_68 : decode cX8_nextMeasure 68 = .ok (.iconst 5, 1) := by decide +kernel
theorem dX8_nextMeasure_69 : decode cX8_nextMeasure 69 = .ok (.ireturn, 1) := by decide +kernel
theorem dX8_nextMeasure_70 : decode cX8_nextMeasure 70 = .ok (.aload_n 0, 1) := by decide +kernel
theorem dX8_nextMeasure_71 : decode cX8_nextMeasure 71 = .ok (.getfield 40, 3) := by decide +kernel
theorem dX8_nextMeasure_74 : decode cX8_nextMeasure 74 = .ok (.ldc 92, 2) := by decide +kernel
theorem dX8_nextMeasure_76 : decode cX8_nextMeasure 76 = .ok (.invokevirtual 102, 3) := by decide +kernel
theorem dX8_nextMeasure_79 : decode cX8_nextMeasure 79 = .ok (.ifCond .eq 8, 3) := by decide +kernel
theorem dX8_nextMeasure_82 : decode cX8_nextMeasure 82 = .ok (.bipush 6, 2) := by decide +kernel
theorem dX8_nextMeasure_84 : decode cX8_nextMeasure 84 = .ok (.goto 4, 3) := by decide +kernel
theorem dX8_nextMeasure_87 : decode cX8_nextMeasure 87 = .ok (.iconst (-1), 1) := by decide +kernel
theorem dX8_nextMeasure_88 : decode cX8_nextMeasure 88 = .ok (.ireturn, 1) := by decide +kernel
theorem dX9_init_0 : decode cX9_init 0 = .ok (.aload_n 0, 1) := by decide +kernel
theorem dX9_init_1 : decode cX9_init 1 = .ok (.invokespecial 3, 3) := by decide +kernel
theorem dX9_init_4 : decode cX9_init 4 = .ok (.aload_n 0, 1) := by decide +kernel
theorem dX9_init_5 : decode cX9_init 5 = .ok (.bipush 8, 2) := by decide +kernel
theorem dX9_init_7 : decode cX9_init 7 = .ok (.newarray .int, 2) := by decide +kernel
theorem dX9_init_9 : decode cX9_init 9 = .ok (.putfield 9, 3) := by decide +kernel
theorem dX9_init_12 : decode cX9_init 12 = .ok (.aload_n 0, 1) := by decide +kernel
theorem dX9_init_13 : decode cX9_init 13 = .ok (.bipush 8, 2) := by decide +kernel
theorem dX9_init_15 : decode cX9_init 15 = .ok (.newarray .int, 2) := by decide +kernel
theorem dX9_init_17 : decode cX9_init 17 = .ok (.putfield 15, 3) := by decide +kernel
theorem dX9_init_20 : decode cX9_init 20 = .ok (.aload_n 0, 1) := by decide +kernel
theorem dX9_init_21 : decode cX9_init 21 = .ok (.bipush 8, 2) := by decide +kernel
theorem dX9_init_23 : decode cX9_init 23 = .ok (.newarray .int, 2) := by decide +kernel
theorem dX9_init_25 : decode cX9_init 25 = .ok (.putfield 18, 3) := by decide +kernel
theorem dX9_init_28 : decode cX9_init 28 = .ok (.aload_n 0, 1) := by decide +kernel
theorem dX9_init_29 : decode cX9_init 29 = .ok (.iconst 0, 1) := by decide +kernel
theorem dX9_init_30 : decode cX9_init 30 = .ok (.putfield 21, 3) := by decide +kernel
theorem dX9_init_33 : decode cX9_init 33 = .ok (.aload_n 0, 1) := by decide +kernel
theorem dX9_init_34 : decode cX9_init 34 = .ok (.iconst 0, 1) := by decide +kernel
theorem dX9_init_35 : decode cX9_init 35 = .ok (.putfield 25, 3) := by decide +kernel
theorem dX9_init_38 : decode cX9_init 38 = .ok (.aload_n 0, 1) := by decide +kernel
theorem dX9_init_39 : decode cX9_init 39 = .ok (.iconst 0, 1) := by decide +kernel
theorem dX9_init_40 : decode cX9_init 40 = .ok (.putfield 28, 3) := by decide +kernel
theorem dX9_init_43 : decode cX9_init 43 = .ok (.aload_n 0, 1) := by decide +kernel
theorem dX9_init_44 : decode cX9_init 44 = .ok (.iconst 0, 1) := by decide +kernel
theorem dX9_init_45 : decode cX9_init 45 = .ok (.putfield 31, 3) := by decide +kernel
theorem dX9_init_48 : decode cX9_init 48 = .ok (.return_, 1) := by decide +kernel
theorem dX9_copyFrom_0 : decode cX9_copyFrom 0 = .ok (.aload_n 1, 1) := by decide +kernel
theorem dX9_copyFrom_1 : decode cX9_copyFrom 1 = .ok (.getfield 9, 3) := by decide +kernel
theorem dX9_copyFrom_4 : decode cX9_copyFrom 4 = .ok (.iconst 0, 1) := by decide +kernel
theorem dX9_copyFrom_5 : decode cX9_copyFrom 5 = .ok (.aload_n 0, 1) := by decide +kernel
theorem dX9_copyFrom_6 : decode cX9_copyFrom 6 = .ok (.getfield 9, 3) := by decide +kernel
theorem dX9_copyFrom_9 : decode cX9_copyFrom 9 = .ok (.iconst 0, 1) := by decide +kernel
theorem dX9_copyFrom_10 : decode cX9_copyFrom 10 = .ok (.bipush 8, 2) := by decide +kernel
theorem dX9_copyFrom_12 : decode cX9_copyFrom 12 = .ok (.invokestatic 34, 3) := by decide +kernel
theorem dX9_copyFrom_15 : decode cX9_copyFrom 15 = .ok (.aload_n 1, 1) := by decide +kernel
theorem dX9_copyFrom_16 : decode cX9_copyFrom 16 = .ok (.getfield 15, 3) := by decide +kernel
theorem dX9_copyFrom_19 : decode cX9_copyFrom 19 = .ok (.iconst 0, 1) := by decide +kernel
theorem dX9_copyFrom_20 : decode cX9_copyFrom 20 = .ok (.aload_n 0, 1) := by decide +kernel
theorem dX9_copyFrom_21 : decode cX9_copyFrom 21 = .ok (.getfield 15, 3) := by decide +kernel
theorem dX9_copyFrom_24 : decode cX9_copyFrom 24 = .ok (.iconst 0, 1) := by decide +kernel
theorem dX9_copyFrom_25 : decode cX9_copyFrom 25 = .ok (.bipush 8, 2) := by decide +kernel
theorem dX9_copyFrom_27 : decode cX9_copyFrom 27 = .ok (.invokestatic 34, 3) := by decide +kernel
theorem dX9_copyFrom_30 : decode cX9_copyFrom 30 = .ok (.aload_n 1, 1) := by decide +kernel
theorem dX9_copyFrom_31 : decode cX9_copyFrom 31 = .ok (.getfield 18, 3) := by decide +kernel
theorem dX9_copyFrom_34 : decode cX9_copyFrom 34 = .ok (.iconst 0, 1) := by decide +kernel
theorem dX9_copyFrom_35 : decode cX9_copyFrom 35 = .ok (.aload_n 0, 1) := by decide +kernel
theorem dX9_copyFrom_36 : decode cX9_copyFrom 36 = .ok (.getfield 18, 3) := by decide +kernel
theorem dX9_copyFrom_39 : decode cX9_copyFrom 39 = .ok (.iconst 0, 1) := by decide +kernel
theorem dX9_copyFrom_40 : decode cX9_copyFrom 40 = .ok (.bipush 8, 2) := by decide +kernel
theorem dX9_copyFrom_42 : decode cX9_copyFrom 42 = .ok (.invokestatic 34, 3) := by decide +kernel
theorem dX9_copyFrom_45 : decode cX9_copyFrom 45 = .ok (.aload_n 0, 1) := by decide +kernel
theorem dX9_copyFrom_46 : decode cX9_copyFrom 46 = .ok (.aload_n 1, 1) := by decide +kernel
theorem dX9_copyFrom_47 : decode cX9_copyFrom 47 = .ok (.getfield 21, 3) := by decide +kernel
theorem dX9_copyFrom_50 : decode cX9_copyFrom 50 = .ok (.putfield 21, 3) := by decide +kernel
theorem dX9_copyFrom_53 : decode cX9_copyFrom 53 = .ok (.aload_n 0, 1) := by decide +kernel
theorem dX9_copyFrom_54 : decode cX9_copyFrom 54 = .ok (.aload_n 1, 1) := by decide +kernel
theorem dX9_copyFrom_55 : decode cX9_copyFrom 55 = .ok (.getfield 25, 3) := by decide +kernel
theorem dX9_copyFrom_58 : decode cX9_copyFrom 58 = .ok (.putfield 25, 3) := by decide +kernel
theorem dX9_copyFrom_61 : decode cX9_copyFrom 61 = .ok (.aload_n 0, 1) := by decide +kernel
theorem dX9_copyFrom_62 : decode cX9_copyFrom 62 = .ok (.aload_n 1, 1) := by decide +kernel
theorem dX9_copyFrom_63 : decode cX9_copyFrom 63 = .ok (.getfield 28, 3) := by decide +kernel
theorem dX9_copyFrom_66 : decode cX9_copyFrom 66 = .ok (.putfield 28, 3) := by decide +kernel
theorem dX9_copyFrom_69 : decode cX9_copyFrom 69 = .ok (.aload_n 0, 1) := by decide +kernel
theorem dX9_copyFrom_70 : decode cX9_copyFrom 70 = .ok (.aload_n 1, 1) := by decide +kernel
theorem dX9_copyFrom_71 : decode cX9_copyFrom 71 = .ok (.getfield 31, 3) := by decide +kernel
theorem dX9_copyFrom_74 : decode cX9_copyFrom 74 = .ok (.putfield 31, 3) := by decide +kernel
theorem dX9_copyFrom_77 : decode cX9_copyFrom 77 = .ok (.return_, 1) := by decide +kernel
theorem dX9_saveTo_0 : decode cX9_saveTo 0 = .ok (.iload_n 2, 1) := by decide +kernel
theorem dX9_saveTo_1 : decode cX9_saveTo 1 = .ok (.bipush 28, 2) := by decide +kernel
theorem dX9_saveTo_3 : decode cX9_saveTo 3 = .ok (.imul, 1) := by decide +kernel
theorem dX9_saveTo_4 : decode cX9_saveTo 4 = .ok (.istore_n 3, 1) := by decide +kernel
theorem dX9_saveTo_5 : decode cX9_saveTo 5 = .ok (.iload_n 3, 1) := by decide +kernel
theorem dX9_saveTo_6 : decode cX9_saveTo 6 = .ok (.ifCond .lt 12, 3) := by decide +kernel
theorem dX9_saveTo_9 : decode cX9_saveTo 9 = .ok (.iload_n 3, 1) := by decide +kernel
theorem dX9_saveTo_10 : decode cX9_saveTo 10 = .ok (.aload_n 1, 1) := by decide +kernel
theorem dX9_saveTo_11 : decode cX9_saveTo 11 = .ok (.arraylength, 1) := by decide +kernel
theorem dX9_saveTo_12 : decode cX9_saveTo 12 = .ok (.bipush 28, 2) := by decide +kernel
theorem dX9_saveTo_14 : decode cX9_saveTo 14 = .ok (.isub, 1) := by decide +kernel
theorem dX9_saveTo_15 : decode cX9_saveTo 15 = .ok (.if_icmp .le 4, 3) := by decide +kernel
theorem dX9_saveTo_18 : decode cX9_saveTo 18 = .ok (.return_, 1) := by decide +kernel
theorem dX9_saveTo_19 : decode cX9_saveTo 19 = .ok (.aload_n 0, 1) := by decide +kernel
theorem dX9_saveTo_20 : decode cX9_saveTo 20 = .ok (.getfield 9, 3) := by decide +kernel
theorem dX9_saveTo_23 : decode cX9_saveTo 23 = .ok (.iconst 0, 1) := by decide +kernel
theorem dX9_saveTo_24 : decode cX9_saveTo 24 = .ok (.aload_n 1, 1) := by decide +kernel
theorem dX9_saveTo_25 : decode cX9_saveTo 25 = .ok (.iload_n 3, 1) := by decide +kernel
theorem dX9_saveTo_26 : decode cX9_saveTo 26 = .ok (.bipush 8, 2) := by decide +kernel
theorem dX9_saveTo_28 : decode cX9_saveTo 28 = .ok (.invokestatic 34, 3) := by decide +kernel
theorem dX9_saveTo_31 : decode cX9_saveTo 31 = .ok (.aload_n 0, 1) := by decide +kernel
theorem dX9_saveTo_32 : decode cX9_saveTo 32 = .ok (.getfield 15, 3) := by decide +kernel
theorem dX9_saveTo_35 : decode cX9_saveTo 35 = .ok (.iconst 0, 1) := by decide +kernel
theorem dX9_saveTo_36 : decode cX9_saveTo 36 = .ok (.aload_n 1, 1) := by decide +kernel
theorem dX9_saveTo_37 : decode cX9_saveTo 37 = .ok (.iload_n 3, 1) := by decide +kernel
theorem dX9_saveTo_38 : decode cX9_saveTo 38 = .ok (.bipush 8, 2) := by decide +kernel
theorem dX9_saveTo_40 : decode cX9_saveTo 40 = .ok (.iadd, 1) := by decide +kernel
theorem dX9_saveTo_41 : decode cX9_saveTo 41 = .ok (.bipush 8, 2) := by decide +kernel
theorem dX9_saveTo_43 : decode cX9_saveTo 43 = .ok (.invokestatic 34, 3) := by decide +kernel
theorem dX9_saveTo_46 : decode cX9_saveTo 46 = .ok (.aload_n 0, 1) := by decide +kernel
theorem dX9_saveTo_47 : decode cX9_saveTo 47 = .ok (.getfield 18, 3) := by decide +kernel
theorem dX9_saveTo_50 : decode cX9_saveTo 50 = .ok (.iconst 0, 1) := by decide +kernel
theorem dX9_saveTo_51 : decode cX9_saveTo 51 = .ok (.aload_n 1, 1) := by decide +kernel
theorem dX9_saveTo_52 : decode cX9_saveTo 52 = .ok (.iload_n 3, 1) := by decide +kernel
theorem dX9_saveTo_53 : decode cX9_saveTo 53 = .ok (.bipush 16, 2) := by decide +kernel
theorem dX9_saveTo_55 : decode cX9_saveTo 55 = .ok (.iadd, 1) := by decide +kernel
theorem dX9_saveTo_56 : decode cX9_saveTo 56 = .ok (.bipush 8, 2) := by decide +kernel
theorem dX9_saveTo_58 : decode cX9_saveTo 58 = .ok (.invokestatic 34, 3) := by decide +kernel
theorem dX9_saveTo_61 : decode cX9_saveTo 61 = .ok (.aload_n 1, 1) := by decide +kernel
theorem dX9_saveTo_62 : decode cX9_saveTo 62 = .ok (.iload_n 3, 1) := by decide +kernel
theorem dX9_saveTo_63 : decode cX9_saveTo 63 = .ok (.bipush 28, 2) := by decide +kernel
theorem dX9_saveTo_65 : decode cX9_saveTo 65 = .ok (.iadd, 1) := by decide +kernel
theorem dX9_saveTo_66 : decode cX9_saveTo 66 = .ok (.iconst 4, 1) := by decide +kernel
theorem dX9_saveTo_67 : decode cX9_saveTo 67 = .ok (.isub, 1) := by decide +kernel
theorem dX9_saveTo_68 : decode cX9_saveTo 68 = .ok (.aload_n 0, 1) := by decide +kernel
theorem dX9_saveTo_69 : decode cX9_saveTo 69 = .ok (.getfield 21, 3) := by decide +kernel
theorem dX9_saveTo_72 : decode cX9_saveTo 72 = .ok (.iastore, 1) := by decide +kernel
theorem dX9_saveTo_73 : decode cX9_saveTo 73 = .ok (.aload_n 1, 1) := by decide +kernel
theorem dX9_saveTo_74 : decode cX9_saveTo 74 = .ok (.iload_n 3, 1) := by decide +kernel
theorem dX9_saveTo_75 : decode cX9_saveTo 75 = .ok (.bipush 28, 2) := by decide +kernel
theorem dX9_saveTo_77 : decode cX9_saveTo 77 = .ok (.iadd, 1) := by decide +kernel
theorem dX9_saveTo_78 : decode cX9_saveTo 78 = .ok (.iconst 3, 1) := by decide +kernel
theorem dX9_saveTo_79 : decode cX9_saveTo 79 = .ok (.isub, 1) := by decide +kernel
theorem dX9_saveTo_80 : decode cX9_saveTo 80 = .ok (.aload_n 0, 1) := by decide +kernel
theorem dX9_saveTo_81 : decode cX9_saveTo 81 = .ok (.getfield 25, 3) := by decide +kernel
theorem dX9_saveTo_84 : decode cX9_saveTo 84 = .ok (.iastore, 1) := by decide +kernel
theorem dX9_saveTo_85 : decode cX9_saveTo 85 = .ok (.aload_n 1, 1) := by decide +kernel
theorem dX9_saveTo_86 : decode cX9_saveTo 86 = .ok (.iload_n 3, 1) := by decide +kernel
theorem dX9_saveTo_87 : decode cX9_saveTo 87 = .ok (.bipush 28, 2) := by decide +kernel
theorem dX9_saveTo_89 : decode cX9_saveTo 89 = .ok (.iadd, 1) := by decide +kernel
theorem dX9_saveTo_90 : decode cX9_saveTo 90 = .ok (.iconst 2, 1) := by decide +kernel
theorem dX9_saveTo_91 : decode cX9_saveTo 91 = .ok (.isub, 1) := by decide +kernel
theorem dX9_saveTo_92 : decode cX9_saveTo 92 = .ok (.aload_n 0, 1) := by decide +kernel
theorem dX9_saveTo_93 : decode cX9_saveTo 93 = .ok (.getfield 28, 3) := by decide +kernel
theorem dX9_saveTo_96 : decode cX9_saveTo 96 = .ok (.iastore, 1) := by decide +kernel
theorem dX9_saveTo_97 : decode cX9_saveTo 97 = .ok (.aload_n 1, 1) := by decide +kernel
theorem dX9_saveTo_98 : decode cX9_saveTo 98 = .ok (.iload_n 3, 1) := by decide +kernel
theorem dX9_saveTo_99 : decode cX9_saveTo 99 = .ok (.bipush 28, 2) := by decide +kernel
theorem dX9_saveTo_101 : decode cX9_saveTo 101 = .ok (.iadd, 1) := by decide +kernel
theorem dX9_saveTo_102 : decode cX9_saveTo 102 = .ok (.iconst 1, 1) := by decide +kernel
theorem dX9_saveTo_103 : decode cX9_saveTo 103 = .ok (.isub, 1) := by decide +kernel
theorem dX9_saveTo_104 : decode cX9_saveTo 104 = .ok (.aload_n 0, 1) := by decide +kernel
theorem dX9_saveTo_105 : decode cX9_saveTo 105 = .ok (.getfield 31, 3) := by decide +kernel
theorem dX9_saveTo_108 : decode cX9_saveTo 108 = .ok (.iastore, 1) := by decide +kernel
theorem dX9_saveTo_109 : decode cX9_saveTo 109 = .ok (.return_, 1) := by decide +kernel
theorem dX9_loadFrom_0 : decode cX9_loadFrom 0 = .ok (.iload_n 2, 1) := by decide +kernel
theorem dX9_loadFrom_1 : decode cX9_loadFrom 1 = .ok (.bipush 28, 2) := by decide +kernel
theorem dX9_loadFrom_3 : decode cX9_loadFrom 3 = .ok (.imul, 1) := by decide +kernel
theorem dX9_loadFrom_4 : decode cX9_loadFrom 4 = .ok (.istore_n 3, 1) := by decide +kernel
theorem dX9_loadFrom_5 : decode cX9_loadFrom 5 = .ok (.iload_n 3, 1) := by decide +kernel
theorem dX9_loadFrom_6 : decode cX9_loadFrom 6 = .ok (.ifCond .lt 12, 3) := by decide +kernel
theorem dX9_loadFrom_9 : decode cX9_loadFrom 9 = .ok (.iload_n 3, 1) := by decide +kernel
theorem dX9_loadFrom_10 : decode cX9_loadFrom 10 = .ok (.aload_n 1, 1) := by decide +kernel
theorem dX9_loadFrom_11 : decode cX9_loadFrom 11 = .ok (.arraylength, 1) := by decide +kernel
theorem dX9_loadFrom_12 : decode cX9_loadFrom 12 = .ok (.bipush 28, 2) := by decide +kernel
theorem dX9_loadFrom_14 : decode cX9_loadFrom 14 = .ok (.isub, 1) := by decide +kernel
theorem dX9_loadFrom_15 : decode cX9_loadFrom 15 = .ok (.if_icmp .le 4, 3) := by decide +kernel
theorem dX9_loadFrom_18 : decode cX9_loadFrom 18 = .ok (.return_, 1) := by decide +kernel
theorem dX9_loadFrom_19 : decode cX9_loadFrom 19 = .ok (.aload_n 1, 1) := by decide +kernel
theorem dX9_loadFrom_20 : decode cX9_loadFrom 20 = .ok (.iload_n 3, 1) := by decide +kernel
theorem dX9_loadFrom_21 : decode cX9_loadFrom 21 = .ok (.aload_n 0, 1) := by decide +kernel
theorem dX9_loadFrom_22 : decode cX9_loadFrom 22 = .ok (.getfield 9, 3) := by decide +kernel
theorem dX9_loadFrom_25 : decode cX9_loadFrom 25 = .ok (.iconst 0, 1) := by decide +kernel
theorem dX9_loadFrom_26 : decode cX9_loadFrom 26 = .ok (.bipush 8, 2) := by decide +kernel
theorem dX9_loadFrom_28 : decode cX9_loadFrom 28 = .ok (.invokestatic 34, 3) := by decide +kernel
theorem dX9_loadFrom_31 : decode cX9_loadFrom 31 = .ok (.aload_n 1, 1) := by decide +kernel
theorem dX9_loadFrom_32 : decode cX9_loadFrom 32 = .ok (.iload_n 3, 1) := by decide +kernel
theorem dX9_loadFrom_33 : decode cX9_loadFrom 33 = .ok (.bipush 8, 2) := by decide +kernel
theorem dX9_loadFrom_35 : decode cX9_loadFrom 35 = .ok (.iadd, 1) := by decide +kernel
theorem dX9_loadFrom_36 : decode cX9_loadFrom 36 = .ok (.aload_n 0, 1) := by decide +kernel
theorem dX9_loadFrom_37 : decode cX9_loadFrom 37 = .ok (.getfield 15, 3) := by decide +kernel
theorem dX9_loadFrom_40 : decode cX9_loadFrom 40 = .ok (.iconst 0, 1) := by decide +kernel
theorem dX9_loadFrom_41 : decode cX9_loadFrom 41 = .ok (.bipush 8, 2) := by decide +kernel
theorem dX9_loadFrom_43 : decode cX9_loadFrom 43 = .ok (.invokestatic 34, 3) := by decide +kernel
theorem dX9_loadFrom_46 : decode cX9_loadFrom 46 = .ok (.aload_n 1, 1) := by decide +kernel
theorem dX9_loadFrom_47 : decode cX9_loadFrom 47 = .ok (.iload_n 3, 1) := by decide +kernel
theorem dX9_loadFrom_48 : decode cX9_loadFrom 48 = .ok (.bipush 16, 2) := by decide +kernel
theorem dX9_loadFrom_50 : decode cX9_loadFrom 50 = .ok (.iadd, 1) := by decide +kernel
theorem dX9_loadFrom_51 : decode cX9_loadFrom 51 = .ok (.aload_n 0, 1) := by decide +kernel
theorem dX9_loadFrom_52 : decode cX9_loadFrom 52 = .ok (.getfield 18, 3) := by decide +kernel
theorem dX9_loadFrom_55 : decode cX9_loadFrom 55 = .ok (.iconst 0, 1) := by decide +kernel
theorem dX9_loadFrom_56 : decode cX9_loadFrom 56 = .ok (.bipush 8, 2) := by decide +kernel
theorem dX9_loadFrom_58 : decode cX9_loadFrom 58 = .ok (.invokestatic 34, 3) := by decide +kernel
theorem dX9_loadFrom_61 : decode cX9_loadFrom 61 = .ok (.aload_n 0, 1) := by decide +kernel
theorem dX9_loadFrom_62 : decode cX9_loadFrom 62 = .ok (.aload_n 1, 1) := by decide +kernel
theorem dX9_loadFrom_63 : decode cX9_loadFrom 63 = .ok (.iload_n 3, 1) := by decide +kernel
theorem dX9_loadFrom_64 : decode cX9_loadFrom 64 = .ok (.bipush 28, 2) := by decide +kernel
theorem dX9_loadFrom_66 : decode cX9_loadFrom 66 = .ok (.iadd, 1) := by decide +kernel
theorem dX9_loadFrom_67 : decode cX9_loadFrom 67 = .ok (.iconst 4, 1) := by decide +kernel
theorem dX9_loadFrom_68 : decode cX9_loadFrom 68 = .ok (.isub, 1) := by decide +kernel
theorem dX9_loadFrom_69 : decode cX9_loadFrom 69 = .ok (.iaload, 1) := by decide +kernel
theorem dX9_loadFrom_70 : decode cX9_loadFrom 70 = .ok (.putfield 21, 3) := by decide +kernel
theorem dX9_loadFrom_73 : decode cX9_loadFrom 73 = .ok (.aload_n 0, 1) := by decide +kernel
theorem dX9_loadFrom_74 : decode cX9_loadFrom 74 = .ok (.aload_n 1, 1) := by decide +kernel
theorem dX9_loadFrom_75 : decode cX9_loadFrom 75 = .ok (.iload_n 3, 1) := by decide +kernel
theorem dX9_loadFrom_76 : decode cX9_loadFrom 76 = .ok (.bipush 28, 2) := by decide +kernel
theorem dX9_loadFrom_78 : decode cX9_loadFrom 78 = .ok (.iadd, 1) := by decide +kernel
theorem dX9_loadFrom_79 : decode cX9_loadFrom 79 = .ok (.iconst 3, 1) := by decide +kernel
theorem dX9_loadFrom_80 : decode cX9_loadFrom 80 = .ok (.isub, 1) := by decide +kernel
theorem dX9_loadFrom_81 : decode cX9_loadFrom 81 = .ok (.iaload, 1) := by decide +kernel
theorem dX9_loadFrom_82 : decode cX9_loadFrom 82 = .ok (.putfield 25, 3) := by decide +kernel
theorem dX9_loadFrom_85 : decode cX9_loadFrom 85 = .ok (.aload_n 0, 1) := by decide +kernel
theorem dX9_loadFrom_86 : decode cX9_loadFrom 86 = .ok (.aload_n 1, 1) := by decide +kernel
theorem dX9_loadFrom_87 : decode cX9_loadFrom 87 = .ok (.iload_n 3, 1) := by decide +kernel
theorem dX9_loadFrom_88 : decode cX9_loadFrom 88 = .ok (.bipush 28, 2) := by decide +kernel
theorem dX9_loadFrom_90 : decode cX9_loadFrom 90 = .ok (.iadd, 1) := by decide +kernel
theorem dX9_loadFrom_91 : decode cX9_loadFrom 91 = .ok (.iconst 2, 1) := by decide +kernel
theorem dX9_loadFrom_92 : decode cX9_loadFrom 92 = .ok (.isub, 1) := by decide +kernel
theorem dX9_loadFrom_93 : decode cX9_loadFrom 93 = .ok (.iaload, 1) := by decide +kernel
theorem dX9_loadFrom_94 : decode cX9_loadFrom 94 = .ok (.putfield 28, 3) := by decide +kernel
theorem dX9_loadFrom_97 : decode cX9_loadFrom 97 = .ok (.aload_n 0, 1) := by decide +kernel
theorem dX9_loadFrom_98 : decode cX9_loadFrom 98 = .ok (.aload_n 1, 1) := by decide +kernel
theorem dX9_loadFrom_99 : decode cX9_loadFrom 99 = .ok (.iload_n 3, 1) := by decide +kernel
theorem dX9_loadFrom_100 : decode cX9_loadFrom 100 = .ok (.bipush 28, 2) := by decide +kernel
theorem dX9_loadFrom_102 : decode cX9_loadFrom 102 = .ok (.iadd, 1) := by decide +kernel
theorem dX9_loadFrom_103 : decode cX9_loadFrom 103 = .ok (.iconst 1, 1) := by decide +kernel
theorem dX9_loadFrom_104 : decode cX9_loadFrom 104 = .ok (.isub, 1) := by decide +kernel
theorem dX9_loadFrom_105 : decode cX9_loadFrom 105 = .ok (.iaload, 1) := by decide +kernel
theorem dX9_loadFrom_106 : decode cX9_loadFrom 106 = .ok (.putfield 31, 3) := by decide +kernel
theorem dX9_loadFrom_109 : decode cX9_loadFrom 109 = .ok (.return_, 1) := by decide +kernel
theorem dX10_init_0 : decode cX10_init 0 = .ok (.aload_n 0, 1) := by decide +kernel
theorem dX10_init_1 : decode cX10_init 1 = .ok (.invokespecial 3, 3) := by decide +kernel
theorem dX10_init_4 : decode cX10_init 4 = .ok (.aload_n 0, 1) := by decide +kernel
theorem dX10_init_5 : decode cX10_init 5 = .ok (.iconst 0, 1) := by decide +kernel
theorem dX10_init_6 : decode cX10_init 6 = .ok (.putfield 9, 3) := by decide +kernel
theorem dX10_init_9 : decode cX10_init 9 = .ok (.aload_n 0, 1) := by decide +kernel
theorem dX10_init_10 : decode cX10_init 10 = .ok (.iconst 0, 1) := by decide +kernel
theorem dX10_init_11 : decode cX10_init 11 = .ok (.putfield 15, 3) := by decide +kernel
theorem dX10_init_14 : decode cX10_init 14 = .ok (.aload_n 0, 1) := by decide +kernel
theorem dX10_init_15 : decode cX10_init 15 = .ok (.iconst 0, 1) := by decide +kernel
theorem dX10_init_16 : decode cX10_init 16 = .ok (.putfield 18, 3) := by decide +kernel
theorem dX10_init_19 : decode cX10_init 19 = .ok (.aload_n 0, 1) := by decide +kernel
theorem dX10_init_20 : decode cX10_init 20 = .ok (.iconst 0, 1) := by decide +kernel
theorem dX10_init_21 : decode cX10_init 21 = .ok (.putfield 21, 3) := by decide +kernel
theorem dX10_init_24 : decode cX10_init 24 = .ok (.aload_n 0, 1) := by decide +kernel
theorem dX10_init_25 : decode cX10_init 25 = .ok (.iconst 0, 1) := by decide +kernel
theorem dX10_init_26 : decode cX10_init 26 = .ok (.putfield 24, 3) := by decide +kernel
theorem dX10_init_29 : decode cX10_init 29 = .ok (.aload_n 0, 1) := by decide +kernel
theorem dX10_init_30 : decode cX10_init 30 = .ok (.iconst 0, 1) := by decide +kernel
theorem dX10_init_31 : decode cX10_init 31 = .ok (.putfield 27, 3) := by decide +kernel
theorem dX10_init_34 : decode cX10_init 34 = .ok (.aload_n 0, 1) := by decide +kernel
theorem dX10_init_35 : decode cX10_init 35 = .ok (.lconst 0, 1) := by decide +kernel
theorem dX10_init_36 : decode cX10_init 36 = .ok (.putfield 30, 3) := by decide +kernel
theorem dX10_init_39 : decode cX10_init 39 = .ok (.aload_n 0, 1) := by decide +kernel
theorem dX10_init_40 : decode cX10_init 40 = .ok (.aload_n 1, 1) := by decide +kernel
theorem dX10_init_41 : decode cX10_init 41 = .ok (.putfield 34, 3) := by decide +kernel
theorem dX10_init_44 : decode cX10_init 44 = .ok (.return_, 1) := by decide +kernel
theorem dX10_start_0 : decode cX10_start 0 = .ok (.aload_n 0, 1) := by decide +kernel
theorem dX10_start_1 : decode cX10_start 1 = .ok (.iconst 0, 1) := by decide +kernel
theorem dX10_start_2 : decode cX10_start 2 = .ok (.iload_n 1, 1) := by decide +kernel
theorem dX10_start_3 : decode cX10_start 3 = .ok (.aload_n 0, 1) := by decide +kernel
theorem dX10_start_4 : decode cX10_start 4 = .ok (.getfield 34, 3) := by decide +kernel
theorem dX10_start_7 : decode cX10_start 7 = .ok (.arraylength, 1) := by decide +kernel
theorem dX10_start_8 : decode cX10_start 8 = .ok (.invokestatic 38, 3) := by decide +kernel
theorem dX10_start_11 : decode cX10_start 11 = .ok (.invokestatic 44, 3) := by decide +kernel
theorem dX10_start_14 : decode cX10_start 14 = .ok (.putfield 9, 3) := by decide +kernel
theorem dX10_start_17 : decode cX10_start 17 = .ok (.aload_n 0, 1) := by decide +kernel
theorem dX10_start_18 : decode cX10_start 18 = .ok (.iconst 0, 1) := by decide +kernel
theorem dX10_start_19 : decode cX10_start 19 = .ok (.putfield 21, 3) := by decide +kernel
theorem dX10_start_22 : decode cX10_start 22 = .ok (.aload_n 0, 1) := by decide +kernel
theorem dX10_start_23 : decode cX10_start 23 = .ok (.invokevirtual 47, 3) := by decide +kernel
theorem dX10_start_26 : decode cX10_start 26 = .ok (.return_, 1) := by decide +kernel
theorem dX10_step_0 : decode cX10_step 0 = .ok (.aload_n 0, 1) := by decide +kernel
theorem dX10_step_1 : decode cX10_step 1 = .ok (.getfield 21, 3) := by decide +kernel
theorem dX10_step_4 : decode cX10_step 4 = .ok (.aload_n 0, 1) := by decide +kernel
theorem dX10_step_5 : decode cX10_step 5 = .ok (.getfield 9, 3) := by decide +kernel
theorem dX10_step_8 : decode cX10_step 8 = .ok (.if_icmp .ge 31, 3) := by decide +kernel
theorem dX10_step_11 : decode cX10_step 11 = .ok (.aload_n 0, 1) := by decide +kernel
theorem dX10_step_12 : decode cX10_step 12 = .ok (.aload_n 0, 1) := by decide +kernel
theorem dX10_step_13 : decode cX10_step 13 = .ok (.getfield 21, 3) := by decide +kernel
theorem dX10_step_16 : decode cX10_step 16 = .ok (.invokevirtual 50, 3) := by decide +kernel
theorem dX10_step_19 : decode cX10_step 19 = .ok (.invokestatic 54, 3) := by decide +kernel
theorem dX10_step_22 : decode cX10_step 22 = .ok (.iconst 5, 1) := by decide +kernel
theorem dX10_step_23 : decode cX10_step 23 = .ok (.if_icmp .ne 16, 3) := by decide +kernel
theorem dX10_step_26 : decode cX10_step 26 = .ok (.aload_n 0, 1) := by decide +kernel
theorem dX10_step_27 : decode cX10_step 27 = .ok (.dup, 1) := by decide +kernel
theorem dX10_step_28 : decode cX10_step 28 = .ok (.getfield 21, 3) := by decide +kernel
theorem dX10_step_31 : decode cX10_step 31 = .ok (.iconst 1, 1) := by decide +kernel
theorem dX10_step_32 : decode cX10_step 32 = .ok (.iadd, 1) := by decide +kernel
theorem dX10_step_33 : decode cX10_step 33 = .ok (.putfield 21, 3) := by decide +kernel
theorem dX10_step_36 : decode cX10_step 36 = .ok (.goto (-36), 3) := by decide +kernel
theorem dX10_step_39 : decode cX10_step 39 = .ok (.aload_n 0, 1) := by decide +kernel
theorem dX10_step_40 : decode cX10_step 40 = .ok (.aload_n 0, 1) := by decide +kernel
theorem dX10_step_41 : decode cX10_step 41 = .ok (.getfield 21, 3) := by decide +kernel
theorem dX10_step_44 : decode cX10_step 44 = .ok (.putfield 18, 3) := by decide +kernel
theorem dX10_step_47 : decode cX10_step 47 = .ok (.aload_n 0, 1) := by decide +kernel
theorem dX10_step_48 : decode cX10_step 48 = .ok (.aload_n 0, 1) := by decide +kernel
theorem dX10_step_49 : decode cX10_step 49 = .ok (.aload_n 0, 1) := by decide +kernel
theorem dX10_step_50 : decode cX10_step 50 = .ok (.getfield 18, 3) := by decide +kernel
theorem dX10_step_53 : decode cX10_step 53 = .ok (.invokevirtual 50, 3) := by decide +kernel
theorem dX10_step_56 : decode cX10_step 56 = .ok (.putfield 27, 3) := by decide +kernel
theorem dX10_step_59 : decode cX10_step 59 = .ok (.aload_n 0, 1) := by decide +kernel
theorem dX10_step_60 : decode cX10_step 60 = .ok (.aload_n 0, 1) := by decide +kernel
theorem dX10_step_61 : decode cX10_step 61 = .ok (.getfield 27, 3) := by decide +kernel
theorem dX10_step_64 : decode cX10_step 64 = .ok (.invokestatic 54, 3) := by decide +kernel
theorem dX10_step_67 : decode cX10_step 67 = .ok (.putfield 15, 3) := by decide +kernel
theorem dX10_step_70 : decode cX10_step 70 = .ok (.aload_n 0, 1) := by decide +kernel
theorem dX10_step_71 : decode cX10_step 71 = .ok (.iconst 0, 1) := by decide +kernel
theorem dX10_step_72 : decode cX10_step 72 = .ok (.putfield 24, 3) := by decide +kernel
theorem dX10_step_75 : decode cX10_step 75 = .ok (.aload_n 0, 1) := by decide +kernel
theorem dX10_step_76 : decode cX10_step 76 = .ok (.lconst 0, 1) := by decide +kernel
theorem dX10_step_77 : decode cX10_step 77 = .ok (.putfield 30, 3) := by decide +kernel
theorem dX10_step_80 : decode cX10_step 80 = .ok (.aload_n 0, 1) := by decide +kernel
theorem dX10_step_81 : decode cX10_step 81 = .ok (.getfield 15, 3) := by decide +kernel
theorem dX10_step_84 : decode cX10_step 84 = .ok (.iconst 2, 1) := by decide +kernel
theorem dX10_step_85 : decode cX10_step 85 = .ok (.if_icmp .eq 11, 3) := by decide +kernel
theorem dX10_step_88 : decode cX10_step 88 = .ok (.aload_n 0, 1) := by decide +kernel
theorem dX10_step_89 : decode cX10_step 89 = .ok (.getfield 15, 3) := by decide +kernel
theorem dX10_step_92 : decode cX10_step 92 = .ok (.iconst 3, 1) := by decide +kernel
theorem dX10_step_93 : decode cX10_step 93 = .ok (.if_icmp .ne 7, 3) := by decide +kernel
theorem dX10_step_96 : decode cX10_step 96 = .ok (.iconst 1, 1) := by decide +kernel
theorem dX10_step_97 : decode cX10_step 97 = .ok (.goto 4, 3) := by decide +kernel
theorem dX10_step_100 : decode cX10_step 100 = .ok (.iconst 0, 1) := by decide +kernel
theorem dX10_step_101 : decode cX10_step 101 = .ok (.istore_n 1, 1) := by decide +kernel
theorem dX10_step_102 : decode cX10_step 102 = .ok (.aload_n 0, 1) := by decide +kernel
theorem dX10_step_103 : decode cX10_step 103 = .ok (.getfield 21, 3) := by decide +kernel
theorem dX10_step_106 : decode cX10_step 106 = .ok (.aload_n 0, 1) := by decide +kernel
theorem dX10_step_107 : decode cX10_step 107 = .ok (.getfield 9, 3) := by decide +kernel
theorem dX10_step_110 : decode cX10_step 110 = .ok (.if_icmp .ge 91, 3) := by decide +kernel
theorem dX10_step_113 : decode cX10_step 113 = .ok (.aload_n 0, 1) := by decide +kernel
theorem dX10_step_114 : decode cX10_step 114 = .ok (.getfield 21, 3) := by decide +kernel
theorem dX10_step_117 : decode cX10_step 117 = .ok (.aload_n 0, 1) := by decide +kernel
theorem dX10_step_118 : decode cX10_step 118 = .ok (.getfield 18, 3) := by decide +kernel
theorem dX10_step_121 : decode cX10_step 121 = .ok (.if_icmp .eq 25, 3) := by decide +kernel
theorem dX10_step_124 : decode cX10_step 124 = .ok (.iload_n 1, 1) := by decide +kernel
theorem dX10_step_125 : decode cX10_step 125 = .ok (.ifCond .eq 76, 3) := by decide +kernel
theorem dX10_step_128 : decode cX10_step 128 = .ok (.aload_n 0, 1) := by decide +kernel
theorem dX10_step_129 : decode cX10_step 129 = .ok (.aload_n 0, 1) := by decide +kernel
theorem dX10_step_130 : decode cX10_step 130 = .ok (.getfield 21, 3) := by decide +kernel
theorem dX10_step_133 : decode cX10_step 133 = .ok (.invokevirtual 50, 3) := by decide +kernel
theorem dX10_step_136 : decode cX10_step 136 = .ok (.invokestatic 54, 3) := by decide +kernel
theorem dX10_step_139 : decode cX10_step 139 = .ok (.aload_n 0, 1) := by decide +kernel
theorem dX10_step_140 : decode cX10_step 140 = .ok (.getfield 15, 3) := by decide +kernel
theorem dX10_step_143 : decode cX10_step 143 = .ok (.if_icmp .ne 58, 3) := by decide +kernel
theorem dX10_step_146 : decode cX10_step 146 = .ok (.aload_n 0, 1) := by decide +kernel
theorem dX10_step_147 : decode cX10_step 147 = .ok (.aload_n 0, 1) := by decide +kernel
theorem dX10_step_148 : decode cX10_step 148 = .ok (.getfield 24, 3) := by decide +kernel
theorem dX10_step_151 : decode cX10_step 151 = .ok (.bipush 10, 2) := by decide +kernel
theorem dX10_step_153 : decode cX10_step 153 = .ok (.imul, 1) := by decide +kernel
theorem dX10_step_154 : decode cX10_step 154 = .ok (.aload_n 0, 1) := by decide +kernel
theorem dX10_step_155 : decode cX10_step 155 = .ok (.aload_n 0, 1) := by decide +kernel
theorem dX10_step_156 : decode cX10_step 156 = .ok (.getfield 21, 3) := by decide +kernel
theorem dX10_step_159 : decode cX10_step 159 = .ok (.invokevirtual 50, 3) := by decide +kernel
theorem dX10_step_162 : decode cX10_step 162 = .ok (.iadd, 1) := by decide +kernel
theorem dX10_step_163 : decode cX10_step 163 = .ok (.bipush 48, 2) := by decide +kernel
theorem dX10_step_165 : decode cX10_step 165 = .ok (.isub, 1) := by decide +kernel
theorem dX10_step_166 : decode cX10_step 166 = .ok (.putfield 24, 3) := by decide +kernel
theorem dX10_step_169 : decode cX10_step 169 = .ok (.aload_n 0, 1) := by decide +kernel
theorem dX10_step_170 : decode cX10_step 170 = .ok (.aload_n 0, 1) := by decide +kernel
theorem dX10_step_171 : decode cX10_step 171 = .ok (.getfield 30, 3) := by decide +kernel
theorem dX10_step_174 : decode cX10_step 174 = .ok (.aload_n 0, 1) := by decide +kernel
theorem dX10_step_175 : decode cX10_step 175 = .ok (.aload_n 0, 1) := by decide +kernel
theorem dX10_step_176 : decode cX10_step 176 = .ok (.getfield 21, 3) := by decide +kernel
theorem dX10_step_179 : decode cX10_step 179 = .ok (.invokevirtual 50, 3) := by decide +kernel
theorem dX10_step_182 : decode cX10_step 182 = .ok (.invokestatic 57, 3) := by decide +kernel
theorem dX10_step_185 : decode cX10_step 185 = .ok (.putfield 30, 3) := by decide +kernel
theorem dX10_step_188 : decode cX10_step 188 = .ok (.aload_n 0, 1) := by decide +kernel
theorem dX10_step_189 : decode cX10_step 189 = .ok (.dup, 1) := by decide +kernel
theorem dX10_step_190 : decode cX10_step 190 = .ok (.getfield 21, 3) := by decide +kernel
theorem dX10_step_193 : decode cX10_step 193 = .ok (.iconst 1, 1) := by decide +kernel
theorem dX10_step_194 : decode cX10_step 194 = .ok (.iadd, 1) := by decide +kernel
theorem dX10_step_195 : decode cX10_step 195 = .ok (.putfield 21, 3) := by decide +kernel
theorem dX10_step_198 : decode cX10_step 198 = .ok (.goto (-96), 3) := by decide +kernel
theorem dX10_step_201 : decode cX10_step 201 = .ok (.aload_n 0, 1) := by decide +kernel
theorem dX10_step_202 : decode cX10_step 202 = .ok (.getfield 21, 3) := by decide +kernel
theorem dX10_step_205 : decode cX10_step 205 = .ok (.aload_n 0, 1) := by decide +kernel
theorem dX10_step_206 : decode cX10_step 206 = .ok (.getfield 18, 3) := by decide +kernel
theorem dX10_step_209 : decode cX10_step 209 = .ok (.isub, 1) := by decide +kernel
theorem dX10_step_210 : decode cX10_step 210 = .ok (.aload_n 0, 1) := by decide +kernel
theorem dX10_step_211 : decode cX10_step 211 = .ok (.getfield 15, 3) := by decide +kernel
theorem dX10_step_214 : decode cX10_step 214 = .ok (.iconst 2, 1) := by decide +kernel
theorem dX10_step_215 : decode cX10_step 215 = .ok (.if_icmp .ne 8, 3) := by decide +kernel
theorem dX10_step_218 : decode cX10_step 218 = .ok (.bipush 8, 2) := by decide +kernel
theorem dX10_step_220 : decode cX10_step 220 = .ok (.goto 4, 3) := by decide +kernel
theorem dX10_step_223 : decode cX10_step 223 = .ok (.iconst 4, 1) := by decide +kernel
theorem dX10_step_224 : decode cX10_step 224 = .ok (.if_icmp .le 7, 3) := by decide +kernel
theorem dX10_step_227 : decode cX10_step 227 = .ok (.iconst 1, 1) := by decide +kernel
theorem dX10_step_228 : decode cX10_step 228 = .ok (.goto 4, 3) := by decide +kernel
theorem dX10_step_231 : decode cX10_step 231 = .ok (.iconst 0, 1) := by decide +kernel
theorem dX10_step_232 : decode cX10_step 232 = .ok (.istore_n 2, 1) := by decide +kernel
theorem dX10_step_233 : decode cX10_step 233 = .ok (.iload_n 1, 1) := by decide +kernel
theorem dX10_step_234 : decode cX10_step 234 = .ok (.ifCond .eq 7, 3) := by decide +kernel
theorem dX10_step_237 : decode cX10_step 237 = .ok (.iload_n 2, 1) := by decide +kernel
theorem dX10_step_238 : decode cX10_step 238 = .ok (.ifCond .ne 26, 3) := by decide +kernel
theorem dX10_step_241 : decode cX10_step 241 = .ok (.aload_n 0, 1) := by decide +kernel
theorem dX10_step_242 : decode cX10_step 242 = .ok (.getfield 15, 3) := by decide +kernel
theorem dX10_step_245 : decode cX10_step 245 = .ok (.iconst 3, 1) := by decide +kernel
theorem dX10_step_246 : decode cX10_step 246 = .ok (.if_icmp .ne 23, 3) := by decide +kernel
theorem dX10_step_249 : decode cX10_step 249 = .ok (.aload_n 0, 1) := by decide +kernel
theorem dX10_step_250 : decode cX10_step 250 = .ok (.aload_n 0, 1) := by decide +kernel
theorem dX10_step_251 : decode cX10_step 251 = .ok (.getfield 21, 3) := by decide +kernel
theorem dX10_step_254 : decode cX10_step 254 = .ok (.invokevirtual 50, 3) := by decide +kernel
theorem dX10_step_257 : decode cX10_step 257 = .ok (.invokestatic 54, 3) := by decide +kernel
theorem dX10_step_260 : decode cX10_step 260 = .ok (.iconst 2, 1) := by decide +kernel
theorem dX10_step_261 : decode cX10_step 261 = .ok (.if_icmp .ne 8, 3) := by decide +kernel
theorem dX10_step_264 : decode cX10_step 264 = .ok (.aload_n 0, 1) := by decide +kernel
theorem dX10_step_265 : decode cX10_step 265 = .ok (.iconst 1, 1) := by decide +kernel
theorem dX10_step_266 : decode cX10_step 266 = .ok (.putfield 15, 3) := by decide +kernel
theorem dX10_step_269 : decode cX10_step 269 = .ok (.return_, 1) := by decide +kernel
theorem dX10_byteAt_0 : decode cX10_byteAt 0 = .ok (.iload_n 1, 1) := by decide +kernel
theorem dX10_byteAt_1 : decode cX10_byteAt 1 = .ok (.ifCond .lt 33, 3) := by decide +kernel
theorem dX10_byteAt_4 : decode cX10_byteAt 4 = .ok (.iload_n 1, 1) := by decide +kernel
theorem dX10_byteAt_5 : decode cX10_byteAt 5 = .ok (.aload_n 0, 1) := by decide +kernel
theorem dX10_byteAt_6 : decode cX10_byteAt 6 = .ok (.getfield 9, 3) := by decide +kernel
theorem dX10_byteAt_9 : decode cX10_byteAt 9 = .ok (.if_icmp .ge 25, 3) := by decide +kernel
theorem dX10_byteAt_12 : decode cX10_byteAt 12 = .ok (.iload_n 1, 1) := by decide +kernel
theorem dX10_byteAt_13 : decode cX10_byteAt 13 = .ok (.aload_n 0, 1) := by decide +kernel
theorem dX10_byteAt_14 : decode cX10_byteAt 14 = .ok (.getfield 34, 3) := by decide +kernel
theorem dX10_byteAt_17 : decode cX10_byteAt 17 = .ok (.arraylength, 1) := by decide +kernel
theorem dX10_byteAt_18 : decode cX10_byteAt 18 = .ok (.if_icmp .ge 16, 3) := by decide +kernel
theorem dX10_byteAt_21 : decode cX10_byteAt 21 = .ok (.aload_n 0, 1) := by decide +kernel
theorem dX10_byteAt_22 : decode cX10_byteAt 22 = .ok (.getfield 34, 3) := by decide +kernel
theorem dX10_byteAt_25 : decode cX10_byteAt 25 = .ok (.iload_n 1, 1) := by decide +kernel
theorem dX10_byteAt_26 : decode cX10_byteAt 26 = .ok (.baload, 1) := by decide +kernel
theorem dX10_byteAt_27 : decode cX10_byteAt 27 = .ok (.sipush 255, 3) := by decide +kernel
theorem dX10_byteAt_30 : decode cX10_byteAt 30 = .ok (.iand, 1) := by decide +kernel
theorem dX10_byteAt_31 : decode cX10_byteAt 31 = .ok (.goto 4, 3) := by decide +kernel
theorem dX10_byteAt_34 : decode cX10_byteAt 34 = .ok (.iconst (-1), 1) := by decide +kernel
theorem dX10_byteAt_35 : decode cX10_byteAt 35 = .ok (.ireturn, 1) := by decide +kernel
theorem dX10_sortOf_0 : decode cX10_sortOf 0 = .ok (.iload_n 0, 1) := by decide +kernel
theorem dX10_sortOf_1 : decode cX10_sortOf 1 = .ok (.iconst (-1), 1) := by decide +kernel
theorem dX10_sortOf_2 : decode cX10_sortOf 2 = .ok (.if_icmp .ne 5, 3) := by decide +kernel
theorem dX10_sortOf_5 : decode cX10_sortOf 5 = .ok (.iconst 0, 1) := by decide +kernel
theorem dX10_sortOf_6 : decode cX10_sortOf 6 = .ok (.ireturn, 1) := by decide +kernel
theorem dX10_sortOf_7 : decode cX10_sortOf 7 = .ok (.iload_n 0, 1) := by decide +kernel
theorem dX10_sortOf_8 : decode cX10_sortOf 8 = .ok (.bipush 32, 2) := by decide +kernel
theorem dX10_sortOf_10 : decode cX10_sortOf 10 = .ok (.if_icmp .eq 9, 3) := by decide +kernel
theorem dX10_sortOf_13 : decode cX10_sortOf 13 = .ok (.iload_n 0, 1) := by decide +kernel
theorem dX10_sortOf_14 : decode cX10_sortOf 14 = .ok (.bipush 10, 2) := by decide +kernel
theorem dX10_sortOf_16 : decode cX10_sortOf 16 = .ok (.if_icmp .ne 5, 3) := by decide +kernel
theorem dX10_sortOf_19 : decode cX10_sortOf 19 = .ok (.iconst 5, 1) := by decide +kernel
theorem dX10_sortOf_20 : decode cX10_sortOf 20 = .ok (.ireturn, 1) := by decide +kernel
theorem dX10_sortOf_21 : decode cX10_sortOf 21 = .ok (.iload_n 0, 1) := by decide +kernel
theorem dX10_sortOf_22 : decode cX10_sortOf 22 = .ok (.bipush 97, 2) := by decide +kernel
theorem dX10_sortOf_24 : decode cX10_sortOf 24 = .ok (.if_icmp .lt 11, 3) := by decide +kernel
theorem dX10_sortOf_27 : decode cX10_sortOf 27 = .ok (.iload_n 0, 1) := by decide +kernel
theorem dX10_sortOf_28 : decode cX10_sortOf 28 = .ok (.bipush 122, 2) := by decide +kernel
theorem dX10_sortOf_30 : decode cX10_sortOf 30 = .ok (.if_icmp .gt 5, 3) := by decide +kernel
theorem dX10_sortOf_33 : decode cX10_sortOf 33 = .ok (.iconst 2, 1) := by decide +kernel
theorem dX10_sortOf_34 : decode cX10_sortOf 34 = .ok (.ireturn, 1) := by decide +kernel
theorem dX10_sortOf_35 : decode cX10_sortOf 35 = .ok (.iload_n 0, 1) := by decide +kernel
theorem dX10_sortOf_36 : decode cX10_sortOf 36 = .ok (.bipush 48, 2) := by decide +kernel
theorem dX10_sortOf_38 : decode cX10_sortOf 38 = .ok (.if_icmp .lt 11, 3) := by decide +kernel
theorem dX10_sortOf_41 : decode cX10_sortOf 41 = .ok (.iload_n 0, 1) := by decide +kernel
theorem dX10_sortOf_42 : decode cX10_sortOf 42 = .ok (.bipush 57, 2) := by decide +kernel
theorem dX10_sortOf_44 : decode cX10_sortOf 44 = .ok (.if_icmp .gt 5, 3) := by decide +kernel
theorem dX10_sortOf_47 : decode cX10_sortOf 47 = .ok (.iconst 3, 1) := by decide +kernel
theorem dX10_sortOf_48 : decode cX10_sortOf 48 = .ok (.ireturn, 1) := by decide +kernel
theorem dX10_sortOf_49 : decode cX10_sortOf 49 = .ok (.ldc 61, 2) := by decide +kernel
theorem dX10_sortOf_51 : decode cX10_sortOf 51 = .ok (.iload_n 0, 1) := by decide +kernel
theorem dX10_sortOf_52 : decode cX10_sortOf 52 = .ok (.i2c, 1) := by decide +kernel
theorem dX10_sortOf_53 : decode cX10_sortOf 53 = .ok (.invokevirtual 63, 3) := by decide +kernel
theorem dX10_sortOf_56 : decode cX10_sortOf 56 = .ok (.ifCond .lt 7, 3) := by decide +kernel
theorem dX10_sortOf_59 : decode cX10_sortOf 59 = .ok (.iconst 4, 1) := by decide +kernel
theorem dX10_sortOf_60 : decode cX10_sortOf 60 = .ok (.goto 4, 3) := by decide +kernel
theorem dX10_sortOf_63 : decode cX10_sortOf 63 = .ok (.iconst 1, 1) := by decide +kernel
theorem dX10_sortOf_64 : decode cX10_sortOf 64 = .ok (.ireturn, 1) := by decide +kernel
theorem dX10_isWord_0 : decode cX10_isWord 0 = .ok (.aload_n 0, 1) := by decide +kernel
theorem dX10_isWord_1 : decode cX10_isWord 1 = .ok (.getfield 15, 3) := by decide +kernel
theorem dX10_isWord_4 : decode cX10_isWord 4 = .ok (.iconst 2, 1) := by decide +kernel
theorem dX10_isWord_5 : decode cX10_isWord 5 = .ok (.if_icmp .eq 5, 3) := by decide +kernel
theorem dX10_isWord_8 : decode cX10_isWord 8 = .ok (.iconst 0, 1) := by decide +kernel
theorem dX10_isWord_9 : decode cX10_isWord 9 = .ok (.ireturn, 1) := by decide +kernel
theorem dX10_isWord_10 : decode cX10_isWord 10 = .ok (.lconst 0, 1) := by decide +kernel
theorem dX10_isWord_11 : decode cX10_isWord 11 = .ok (.lstore_n 2, 1) := by decide +kernel
theorem dX10_isWord_12 : decode cX10_isWord 12 = .ok (.iconst 0, 1) := by decide +kernel
theorem dX10_isWord_13 : decode cX10_isWord 13 = .ok (.istore 4, 2) := by decide +kernel
theorem dX10_isWord_15 : decode cX10_isWord 15 = .ok (.iload 4, 2) := by decide +kernel
theorem dX10_isWord_17 : decode cX10_isWord 17 = .ok (.aload_n 1, 1) := by decide +kernel
theorem dX10_isWord_18 : decode cX10_isWord 18 = .ok (.invokevirtual 68, 3) := by decide +kernel
theorem dX10_isWord_21 : decode cX10_isWord 21 = .ok (.if_icmp .ge 20, 3) := by decide +kernel
theorem dX10_isWord_24 : decode cX10_isWord 24 = .ok (.lload_n 2, 1) := by decide +kernel
theorem dX10_isWord_25 : decode cX10_isWord 25 = .ok (.aload_n 1, 1) := by decide +kernel
theorem dX10_isWord_26 : decode cX10_isWord 26 = .ok (.iload 4, 2) := by decide +kernel
theorem dX10_isWord_28 : decode cX10_isWord 28 = .ok (.invokevirtual 71, 3) := by decide +kernel
theorem dX10_isWord_31 : decode cX10_isWord 31 = .ok (.invokestatic 57, 3) := by decide +kernel
theorem dX10_isWord_34 : decode cX10_isWord 34 = .ok (.lstore_n 2, 1) := by decide +kernel
theorem dX10_isWord_35 : decode cX10_isWord 35 = .ok (.iinc 4 1, 3) := by decide +kernel
theorem dX10_isWord_38 : decode cX10_isWord 38 = .ok (.goto (-23), 3) := by decide +kernel
theorem dX10_isWord_41 : decode cX10_isWord 41 = .ok (.aload_n 0, 1) := by decide +kernel
theorem dX10_isWord_42 : decode cX10_isWord 42 = .ok (.getfield 30, 3) := by decide +kernel
theorem dX10_isWord_45 : decode cX10_isWord 45 = .ok (.lload_n 2, 1) := by decide +kernel
theorem dX10_isWord_46 : decode cX10_isWord 46 = .ok (.lcmp, 1) := by decide +kernel
theorem dX10_isWord_47 : decode cX10_isWord 47 = .ok (.ifCond .ne 7, 3) := by decide +kernel
theorem dX10_isWord_50 : decode cX10_isWord 50 = .ok (.iconst 1, 1) := by decide +kernel
theorem dX10_isWord_51 : decode cX10_isWord 51 = .ok (.goto 4, 3) := by decide +kernel
theorem dX10_isWord_54 : decode cX10_isWord 54 = .ok (.iconst 0, 1) := by decide +kernel
theorem dX10_isWord_55 : decode cX10_isWord 55 = .ok (.ireturn, 1) := by decide +kernel
theorem dX10_isSign_0 : decode cX10_isSign 0 = .ok (.aload_n 0, 1) := by decide +kernel
theorem dX10_isSign_1 : decode cX10_isSign 1 = .ok (.getfield 15, 3) := by decide +kernel
theorem dX10_isSign_4 : decode cX10_isSign 4 = .ok (.iconst 4, 1) := by decide +kernel
theorem dX10_isSign_5 : decode cX10_isSign 5 = .ok (.if_icmp .ne 15, 3) := by decide +kernel
theorem dX10_isSign_8 : decode cX10_isSign 8 = .ok (.aload_n 0, 1) := by decide +kernel
theorem dX10_isSign_9 : decode cX10_isSign 9 = .ok (.getfield 27, 3) := by decide +kernel
theorem dX10_isSign_12 : decode cX10_isSign 12 = .ok (.iload_n 1, 1) := by decide +kernel
theorem dX10_isSign_13 : decode cX10_isSign 13 = .ok (.if_icmp .ne 7, 3) := by decide +kernel
theorem dX10_isSign_16 : decode cX10_isSign 16 = .ok (.iconst 1, 1) := by decide +kernel
theorem dX10_isSign_17 : decode cX10_isSign 17 = .ok (.goto 4, 3) := by decide +kernel
theorem dX10_isSign_20 : decode cX10_isSign 20 = .ok (.iconst 0, 1) := by decide +kernel
theorem dX10_isSign_21 : decode cX10_isSign 21 = .ok (.ireturn, 1) := by decide +kernel
theorem dX10_isName_0 : decode cX10_isName 0 = .ok (.aload_n 0, 1) := by decide +kernel
theorem dX10_isName_1 : decode cX10_isName 1 = .ok (.getfield 15, 3) := by decide +kernel
theorem dX10_isName_4 : decode cX10_isName 4 = .ok (.iconst 2, 1) := by decide +kernel
theorem dX10_isName_5 : decode cX10_isName 5 = .ok (.if_icmp .ne 14, 3) := by decide +kernel
theorem dX10_isName_8 : decode cX10_isName 8 = .ok (.aload_n 0, 1) := by decide +kernel
theorem dX10_isName_9 : decode cX10_isName 9 = .ok (.invokevirtual 75, 3) := by decide +kernel
theorem dX10_isName_12 : decode cX10_isName 12 = .ok (.ifCond .ne 7, 3) := by decide +kernel
theorem dX10_isName_15 : decode cX10_isName 15 = .ok (.iconst 1, 1) := by decide +kernel
theorem dX10_isName_16 : decode cX10_isName 16 = .ok (.goto 4, 3) := by decide +kernel
theorem dX10_isName_19 : decode cX10_isName 19 = .ok (.iconst 0, 1) := by decide +kernel
theorem dX10_isName_20 : decode cX10_isName 20 = .ok (.ireturn, 1) := by decide +kernel
theorem dX10_isOwnWord_0 : decode cX10_isOwnWord 0 = .ok (.lconst 0, 1) := by decide +kernel
theorem dX10_isOwnWord_1 : decode cX10_isOwnWord 1 = .ok (.lstore_n 1, 1) := by decide +kernel
theorem dX10_isOwnWord_2 : decode cX10_isOwnWord 2 = .ok (.iconst 0, 1) := by decide +kernel
theorem dX10_isOwnWord_3 : decode cX10_isOwnWord 3 = .ok (.istore_n 3, 1) := by decide +kernel
theorem dX10_isOwnWord_4 : decode cX10_isOwnWord 4 = .ok (.iload_n 3, 1) := by decide +kernel
theorem dX10_isOwnWord_5 : decode cX10_isOwnWord 5 = .ok (.ldc 79, 2) := by decide +kernel
theorem dX10_isOwnWord_7 : decode cX10_isOwnWord 7 = .ok (.invokevirtual 68, 3) := by decide +kernel
theorem dX10_isOwnWord_10 : decode cX10_isOwnWord 10 = .ok (.if_icmp .ge 47, 3) := by decide +kernel
theorem dX10_isOwnWord_13 : decode cX10_isOwnWord 13 = .ok (.ldc 79, 2) := by decide +kernel
theorem dX10_isOwnWord_15 : decode cX10_isOwnWord 15 = .ok (.iload_n 3, 1) := by decide +kernel
theorem dX10_isOwnWord_16 : decode cX10_isOwnWord 16 = .ok (.invokevirtual 71, 3) := by decide +kernel
theorem dX10_isOwnWord_19 : decode cX10_isOwnWord 19 = .ok (.istore 4, 2) := by decide +kernel
theorem dX10_isOwnWord_21 : decode cX10_isOwnWord 21 = .ok (.iload 4, 2) := by decide +kernel
theorem dX10_isOwnWord_23 : decode cX10_isOwnWord 23 = .ok (.bipush 32, 2) := by decide +kernel
theorem dX10_isOwnWord_25 : decode cX10_isOwnWord 25 = .ok (.if_icmp .eq 13, 3) := by decide +kernel
theorem dX10_isOwnWord_28 : decode cX10_isOwnWord 28 = .ok (.lload_n 1, 1) := by decide +kernel
theorem dX10_isOwnWord_29 : decode cX10_isOwnWord 29 = .ok (.iload 4, 2) := by decide +kernel
theorem dX10_isOwnWord_31 : decode cX10_isOwnWord 31 = .ok (.invokestatic 57, 3) := by decide +kernel
theorem dX10_isOwnWord_34 : decode cX10_isOwnWord 34 = .ok (.lstore_n 1, 1) := by decide +kernel
theorem dX10_isOwnWord_35 : decode cX10_isOwnWord 35 = .ok (.goto 16, 3) := by decide +kernel
theorem dX10_isOwnWord_38 : decode cX10_isOwnWord 38 = .ok (.lload_n 1, 1) := by decide +kernel
theorem dX10_isOwnWord_39 : decode cX10_isOwnWord 39 = .ok (.aload_n 0, 1) := by decide +kernel
theorem dX10_isOwnWord_40 : decode cX10_isOwnWord 40 = .ok (.getfield 30, 3) := by decide +kernel
theorem dX10_isOwnWord_43 : decode cX10_isOwnWord 43 = .ok (.lcmp, 1) := by decide +kernel
theorem dX10_isOwnWord_44 : decode cX10_isOwnWord 44 = .ok (.ifCond .ne 5, 3) := by decide +kernel
theorem dX10_isOwnWord_47 : decode cX10_isOwnWord 47 = .ok (.iconst 1, 1) := by decide +kernel
theorem dX10_isOwnWord_48 : decode cX10_isOwnWord 48 = .ok (.ireturn, 1) := by decide +kernel
theorem dX10_isOwnWord_49 : decode cX10_isOwnWord 49 = .ok (.lconst 0, 1) := by decide +kernel
theorem dX10_isOwnWord_50 : decode cX10_isOwnWord 50 = .ok (.lstore_n 1, 1) := by decide +kernel
theorem dX10_isOwnWord_51 : decode cX10_isOwnWord 51 = .ok (.iinc 3 1, 3) := by decide +kernel
theorem dX10_isOwnWord_54 : decode cX10_isOwnWord 54 = .ok (.goto (-50), 3) := by decide +kernel
theorem dX10_isOwnWord_57 : decode cX10_isOwnWord 57 = .ok (.lload_n 1, 1) := by decide +kernel
theorem dX10_isOwnWord_58 : decode cX10_isOwnWord 58 = .ok (.aload_n 0, 1) := by decide +kernel
theorem dX10_isOwnWord_59 : decode cX10_isOwnWord 59 = .ok (.getfield 30, 3) := by decide +kernel
theorem dX10_isOwnWord_62 : decode cX10_isOwnWord 62 = .ok (.lcmp, 1) := by decide +kernel
theorem dX10_isOwnWord_63 : decode cX10_isOwnWord 63 = .ok (.ifCond .ne 7, 3) := by decide +kernel
theorem dX10_isOwnWord_66 : decode cX10_isOwnWord 66 = .ok (.iconst 1, 1) := by decide +kernel
theorem dX10_isOwnWord_67 : decode cX10_isOwnWord 67 = .ok (.goto 4, 3) := by decide +kernel
theorem dX10_isOwnWord_70 : decode cX10_isOwnWord 70 = .ok (.iconst 0, 1) := by decide +kernel
theorem dX10_isOwnWord_71 : decode cX10_isOwnWord 71 = .ok (.ireturn, 1) := by decide +kernel
theorem dX10_withLetter_0 : decode cX10_withLetter 0 = .ok (.lload_n 0, 1) := by decide +kernel
theorem dX10_withLetter_1 : decode cX10_withLetter 1 = .ok (.ldc2_w 81, 3) := by decide +kernel
theorem dX10_withLetter_4 : decode cX10_withLetter 4 = .ok (.lmul, 1) := by decide +kernel
theorem dX10_withLetter_5 : decode cX10_withLetter 5 = .ok (.iload_n 2, 1) := by decide +kernel
theorem dX10_withLetter_6 : decode cX10_withLetter 6 = .ok (.bipush 97, 2) := by decide +kernel
theorem dX10_withLetter_8 : decode cX10_withLetter 8 = .ok (.isub, 1) := by decide +kernel
theorem dX10_withLetter_9 : decode cX10_withLetter 9 = .ok (.iconst 1, 1) := by decide +kernel
theorem dX10_withLetter_10 : decode cX10_withLetter 10 = .ok (.iadd, 1) := by decide +kernel
theorem dX10_withLetter_11 : decode cX10_withLetter 11 = .ok (.i2l, 1) := by decide +kernel
theorem dX10_withLetter_12 : decode cX10_withLetter 12 = .ok (.ladd, 1) := by decide +kernel
theorem dX10_withLetter_13 : decode cX10_withLetter 13 = .ok (.lreturn, 1) := by decide +kernel
theorem dX11_init_0 : decode cX11_init 0 = .ok (.aload_n 0, 1) := by decide +kernel
theorem dX11_init_1 : decode cX11_init 1 = .ok (.invokespecial 3, 3) := by decide +kernel
theorem dX11_init_4 : decode cX11_init 4 = .ok (.aload_n 0, 1) := by decide +kernel
theorem dX11_init_5 : decode cX11_init 5 = .ok (.sipush 1600, 3) := by decide +kernel
theorem dX11_init_8 : decode cX11_init 8 = .ok (.newarray .byte, 2) := by decide +kernel
theorem dX11_init_10 : decode cX11_init 10 = .ok (.putfield 9, 3) := by decide +kernel
theorem dX11_init_13 : decode cX11_init 13 = .ok (.aload_n 0, 1) := by decide +kernel
theorem dX11_init_14 : decode cX11_init 14 = .ok (.iconst 0, 1) := by decide +kernel
theorem dX11_init_15 : decode cX11_init 15 = .ok (.putfield 13, 3) := by decide +kernel
theorem dX11_init_18 : decode cX11_init 18 = .ok (.aload_n 0, 1) := by decide +kernel
theorem dX11_init_19 : decode cX11_init 19 = .ok (.new 17, 3) := by decide +kernel
theorem dX11_init_22 : decode cX11_init 22 = .ok (.dup, 1) := by decide +kernel
theorem dX11_init_23 : decode cX11_init 23 = .ok (.aload_n 0, 1) := by decide +kernel
theorem dX11_init_24 : decode cX11_init 24 = .ok (.getfield 9, 3) := by decide +kernel
theorem dX11_init_27 : decode cX11_init 27 = .ok (.invokespecial 19, 3) := by decide +kernel
theorem dX11_init_30 : decode cX11_init 30 = .ok (.putfield 22, 3) := by decide +kernel
theorem dX11_init_33 : decode cX11_init 33 = .ok (.aload_n 0, 1) := by decide +kernel
theorem dX11_init_34 : decode cX11_init 34 = .ok (.new 26, 3) := by decide +kernel
theorem dX11_init_37 : decode cX11_init 37 = .ok (.dup, 1) := by decide +kernel
theorem dX11_init_38 : decode cX11_init 38 = .ok (.invokespecial 28, 3) := by decide +kernel
theorem dX11_init_41 : decode cX11_init 41 = .ok (.putfield 29, 3) := by decide +kernel
theorem dX11_init_44 : decode cX11_init 44 = .ok (.aload_n 0, 1) := by decide +kernel
theorem dX11_init_45 : decode cX11_init 45 = .ok (.new 26, 3) := by decide +kernel
theorem dX11_init_48 : decode cX11_init 48 = .ok (.dup, 1) := by decide +kernel
theorem dX11_init_49 : decode cX11_init 49 = .ok (.invokespecial 28, 3) := by decide +kernel
theorem dX11_init_52 : decode cX11_init 52 = .ok (.putfield 33, 3) := by decide +kernel
theorem dX11_init_55 : decode cX11_init 55 = .ok (.aload_n 0, 1) := by decide +kernel
theorem dX11_init_56 : decode cX11_init 56 = .ok (.new 36, 3) := by decide +kernel
theorem dX11_init_59 : decode cX11_init 59 = .ok (.dup, 1) := by decide +kernel
theorem dX11_init_60 : decode cX11_init 60 = .ok (.invokespecial 38, 3) := by decide +kernel
theorem dX11_init_63 : decode cX11_init 63 = .ok (.putfield 39, 3) := by decide +kernel
theorem dX11_init_66 : decode cX11_init 66 = .ok (.aload_n 0, 1) := by decide +kernel
theorem dX11_init_67 : decode cX11_init 67 = .ok (.new 36, 3) := by decide +kernel
theorem dX11_init_70 : decode cX11_init 70 = .ok (.dup, 1) := by decide +kernel
theorem dX11_init_71 : decode cX11_init 71 = .ok (.invokespecial 38, 3) := by decide +kernel
theorem dX11_init_74 : decode cX11_init 74 = .ok (.putfield 43, 3) := by decide +kernel
theorem dX11_init_77 : decode cX11_init 77 = .ok (.aload_n 0, 1) := by decide +kernel
theorem dX11_init_78 : decode cX11_init 78 = .ok (.new 46, 3) := by decide +kernel
theorem dX11_init_81 : decode cX11_init 81 = .ok (.dup, 1) := by decide +kernel
theorem dX11_init_82 : decode cX11_init 82 = .ok (.invokespecial 48, 3) := by decide +kernel
theorem dX11_init_85 : decode cX11_init 85 = .ok (.putfield 49, 3) := by decide +kernel
theorem dX11_init_88 : decode cX11_init 88 = .ok (.aload_n 0, 1) := by decide +kernel
theorem dX11_init_89 : decode cX11_init 89 = .ok (.new 53, 3) := by decide +kernel
theorem dX11_init_92 : decode cX11_init 92 = .ok (.dup, 1) := by decide +kernel
theorem dX11_init_93 : decode cX11_init 93 = .ok (.invokespecial 55, 3) := by decide +kernel
theorem dX11_init_96 : decode cX11_init 96 = .ok (.putfield 56, 3) := by decide +kernel
theorem dX11_init_99 : decode cX11_init 99 = .ok (.aload_n 0, 1) := by decide +kernel
theorem dX11_init_100 : decode cX11_init 100 = .ok (.new 60, 3) := by decide +kernel
theorem dX11_init_103 : decode cX11_init 103 = .ok (.dup, 1) := by decide +kernel
theorem dX11_init_104 : decode cX11_init 104 = .ok (.invokespecial 62, 3) := by decide +kernel
theorem dX11_init_107 : decode cX11_init 107 = .ok (.putfield 63, 3) := by decide +kernel
theorem dX11_init_110 : decode cX11_init 110 = .ok (.aload_n 0, 1) := by decide +kernel
theorem dX11_init_111 : decode cX11_init 111 = .ok (.new 67, 3) := by decide +kernel
theorem dX11_init_114 : decode cX11_init 114 = .ok (.dup, 1) := by decide +kernel
theorem dX11_init_115 : decode cX11_init 115 = .ok (.invokespecial 69, 3) := by decide +kernel
theorem dX11_init_118 : decode cX11_init 118 = .ok (.putfield 70, 3) := by decide +kernel
theorem dX11_init_121 : decode cX11_init 121 = .ok (.aload_n 0, 1) := by decide +kernel
theorem dX11_init_122 : decode cX11_init 122 = .ok (.new 74, 3) := by decide +kernel
theorem dX11_init_125 : decode cX11_init 125 = .ok (.dup, 1) := by decide +kernel
theorem dX11_init_126 : decode cX11_init 126 = .ok (.invokespecial 76, 3) := by decide +kernel
theorem dX11_init_129 : decode cX11_init 129 = .ok (.putfield 77, 3) := by decide +kernel
theorem dX11_init_132 : decode cX11_init 132 = .ok (.aload_n 0, 1) := by decide +kernel
theorem dX11_init_133 : decode cX11_init 133 = .ok (.new 81, 3) := by decide +kernel
theorem dX11_init_136 : decode cX11_init 136 = .ok (.dup, 1) := by decide +kernel
theorem dX11_init_137 : decode cX11_init 137 = .ok (.invokespecial 83, 3) := by decide +kernel
theorem dX11_init_140 : decode cX11_init 140 = .ok (.putfield 84, 3) := by decide +kernel
theorem dX11_init_143 : decode cX11_init 143 = .ok (.aload_n 0, 1) := by decide +kernel
theorem dX11_init_144 : decode cX11_init 144 = .ok (.getfield 29, 3) := by decide +kernel
theorem dX11_init_147 : decode cX11_init 147 = .ok (.aload_n 0, 1) := by decide +kernel
theorem dX11_init_148 : decode cX11_init 148 = .ok (.getfield 39, 3) := by decide +kernel
theorem dX11_init_151 : decode cX11_init 151 = .ok (.invokevirtual 88, 3) := by decide +kernel
theorem dX11_init_154 : decode cX11_init 154 = .ok (.aload_n 0, 1) := by decide +kernel
theorem dX11_init_155 : decode cX11_init 155 = .ok (.getfield 49, 3) := by decide +kernel
theorem dX11_init_158 : decode cX11_init 158 = .ok (.aload_n 0, 1) := by decide +kernel
theorem dX11_init_159 : decode cX11_init 159 = .ok (.getfield 39, 3) := by decide +kernel
theorem dX11_init_162 : decode cX11_init 162 = .ok (.invokevirtual 92, 3) := by decide +kernel
theorem dX11_init_165 : decode cX11_init 165 = .ok (.return_, 1) := by decide +kernel
theorem dX11_feed_0 : decode cX11_feed 0 = .ok (.aload_n 0, 1) := by decide +kernel
theorem dX11_feed_1 : decode cX11_feed 1 = .ok (.getfield 13, 3) := by decide +kernel
theorem dX11_feed_4 : decode cX11_feed 4 = .ok (.sipush 1580, 3) := by decide +kernel
theorem dX11_feed_7 : decode cX11_feed 7 = .ok (.if_icmp .le 5, 3) := by decide +kernel
theorem dX11_feed_10 : decode cX11_feed 10 = .ok (.iconst (-1), 1) := by decide +kernel
theorem dX11_feed_11 : decode cX11_feed 11 = .ok (.ireturn, 1) := by decide +kernel
theorem dX11_feed_12 : decode cX11_feed 12 = .ok (.aload_n 0, 1) := by decide +kernel
theorem dX11_feed_13 : decode cX11_feed 13 = .ok (.iload_n 1, 1) := by decide +kernel
theorem dX11_feed_14 : decode cX11_feed 14 = .ok (.invokevirtual 95, 3) := by decide +kernel
theorem dX11_feed_17 : decode cX11_feed 17 = .ok (.aload_n 0, 1) := by decide +kernel
theorem dX11_feed_18 : decode cX11_feed 18 = .ok (.iload_n 2, 1) := by decide +kernel
theorem dX11_feed_19 : decode cX11_feed 19 = .ok (.invokevirtual 95, 3) := by decide +kernel
theorem dX11_feed_22 : decode cX11_feed 22 = .ok (.aload_n 0, 1) := by decide +kernel
theorem dX11_feed_23 : decode cX11_feed 23 = .ok (.iload_n 3, 1) := by decide +kernel
theorem dX11_feed_24 : decode cX11_feed 24 = .ok (.invokevirtual 95, 3) := by decide +kernel
theorem dX11_feed_27 : decode cX11_feed 27 = .ok (.aload_n 0, 1) := by decide +kernel
theorem dX11_feed_28 : decode cX11_feed 28 = .ok (.iload 4, 2) := by decide +kernel
theorem dX11_feed_30 : decode cX11_feed 30 = .ok (.invokevirtual 95, 3) := by decide +kernel
theorem dX11_feed_33 : decode cX11_feed 33 = .ok (.aload_n 0, 1) := by decide +kernel
theorem dX11_feed_34 : decode cX11_feed 34 = .ok (.iload 5, 2) := by decide +kernel
theorem dX11_feed_36 : decode cX11_feed 36 = .ok (.invokevirtual 95, 3) := by decide +kernel
theorem dX11_feed_39 : decode cX11_feed 39 = .ok (.aload_n 0, 1) := by decide +kernel
theorem dX11_feed_40 : decode cX11_feed 40 = .ok (.getfield 13, 3) := by decide +kernel
theorem dX11_feed_43 : decode cX11_feed 43 = .ok (.ireturn, 1) := by decide +kernel
theorem dX11_feedOne_0 : decode cX11_feedOne 0 = .ok (.bipush 24, 2) := by decide +kernel
theorem dX11_feedOne_2 : decode cX11_feedOne 2 = .ok (.istore_n 2, 1) := by decide +kernel
theorem dX11_feedOne_3 : decode cX11_feedOne 3 = .ok (.iload_n 2, 1) := by decide +kernel
theorem dX11_feedOne_4 : decode cX11_feedOne 4 = .ok (.ifCond .lt 51, 3) := by decide +kernel
theorem dX11_feedOne_7 : decode cX11_feedOne 7 = .ok (.aload_n 0, 1) := by decide +kernel
theorem dX11_feedOne_8 : decode cX11_feedOne 8 = .ok (.getfield 13, 3) := by decide +kernel
theorem dX11_feedOne_11 : decode cX11_feedOne 11 = .ok (.ifCond .lt 38, 3) := by decide +kernel
theorem dX11_feedOne_14 : decode cX11_feedOne 14 = .ok (.aload_n 0, 1) := by decide +kernel
theorem dX11_feedOne_15 : decode cX11_feedOne 15 = .ok (.getfield 13, 3) := by decide +kernel
theorem dX11_feedOne_18 : decode cX11_feedOne 18 = .ok (.aload_n 0, 1) := by decide +kernel
theorem dX11_feedOne_19 : decode cX11_feedOne 19 = .ok (.getfield 9, 3) := by decide +kernel
theorem dX11_feedOne_22 : decode cX11_feedOne 22 = .ok (.arraylength, 1) := by decide +kernel
theorem dX11_feedOne_23 : decode cX11_feedOne 23 = .ok (.if_icmp .ge 26, 3) := by decide +kernel
theorem dX11_feedOne_26 : decode cX11_feedOne 26 = .ok (.aload_n 0, 1) := by decide +kernel
theorem dX11_feedOne_27 : decode cX11_feedOne 27 = .ok (.getfield 9, 3) := by decide +kernel
theorem dX11_feedOne_30 : decode cX11_feedOne 30 = .ok (.aload_n 0, 1) := by decide +kernel
theorem dX11_feedOne_31 : decode cX11_feedOne 31 = .ok (.getfield 13, 3) := by decide +kernel
theorem dX11_feedOne_34 : decode cX11_feedOne 34 = .ok (.iload_n 1, 1) := by decide +kernel
theorem dX11_feedOne_35 : decode cX11_feedOne 35 = .ok (.iload_n 2, 1) := by decide +kernel
theorem dX11_feedOne_36 : decode cX11_feedOne 36 = .ok (.iushr, 1) := by decide +kernel
theorem dX11_feedOne_37 : decode cX11_feedOne 37 = .ok (.i2b, 1) := by decide +kernel
theorem dX11_feedOne_38 : decode cX11_feedOne 38 = .ok (.bastore, 1) := by decide +kernel
theorem dX11_feedOne_39 : decode cX11_feedOne 39 = .ok (.aload_n 0, 1) := by decide +kernel
theorem dX11_feedOne_40 : decode cX11_feedOne 40 = .ok (.dup, 1) := by decide +kernel
theorem dX11_feedOne_41 : decode cX11_feedOne 41 = .ok (.getfield 13, 3) := by decide +kernel
theorem dX11_feedOne_44 : decode cX11_feedOne 44 = .ok (.iconst 1, 1) := by decide +kernel
theorem dX11_feedOne_45 : decode cX11_feedOne 45 = .ok (.iadd, 1) := by decide +kernel
theorem dX11_feedOne_46 : decode cX11_feedOne 46 = .ok (.putfield 13, 3) := by decide +kernel
theorem dX11_feedOne_49 : decode cX11_feedOne 49 = .ok (.iinc 2 (-8), 3) := by decide +kernel
theorem dX11_feedOne_52 : decode cX11_feedOne 52 = .ok (.goto (-49), 3) := by decide +kernel
theorem dX11_feedOne_55 : decode cX11_feedOne 55 = .ok (.return_, 1) := by decide +kernel
