theorem dX12_goWeek_168 : decode cX12_goWeek 168 = .ok (.iastore, 1) := by decide +kernel
theorem dX12_goWeek_169 : decode cX12_goWeek 169 = .ok (.iinc 1 1, 3) := by decide +kernel
theorem dX12_goWeek_172 : decode cX12_goWeek 172 = .ok (.goto (-125), 3) := by decide +kernel
theorem dX12_goWeek_175 : decode cX12_goWeek 175 = .ok (.return_, 1) := by decide +kernel
theorem dX12_tenant_0 : decode cX12_tenant 0 = .ok (.aload_n 0, 1) := by decide +kernel
theorem dX12_tenant_1 : decode cX12_tenant 1 = .ok (.iload_n 1, 1) := by decide +kernel
theorem dX12_tenant_2 : decode cX12_tenant 2 = .ok (.invokevirtual 382, 3) := by decide +kernel
theorem dX12_tenant_5 : decode cX12_tenant 5 = .ok (.ifCond .ne 5, 3) := by decide +kernel
theorem dX12_tenant_8 : decode cX12_tenant 8 = .ok (.iconst (-1), 1) := by decide +kernel
theorem dX12_tenant_9 : decode cX12_tenant 9 = .ok (.ireturn, 1) := by decide +kernel
theorem dX12_tenant_10 : decode cX12_tenant 10 = .ok (.aload_n 0, 1) := by decide +kernel
theorem dX12_tenant_11 : decode cX12_tenant 11 = .ok (.invokevirtual 394, 3) := by decide +kernel
theorem dX12_tenant_14 : decode cX12_tenant 14 = .ok (.iload_n 2, 1) := by decide +kernel
theorem dX12_tenant_15 : decode cX12_tenant 15 = .ok (.tableswitch 117 0 8 #[49, 56, 63, 70, 77, 84, 91, 101, 111], 49) := by decide +kernel
theorem dX12_tenant_64 : decode cX12_tenant 64 = .ok (.aload_n 0, 1) := by decide +kernel
theorem dX12_tenant_65 : decode cX12_tenant 65 = .ok (.getfield 67, 3) := by decide +kernel
theorem dX12_tenant_68 : decode cX12_tenant 68 = .ok (.iload_n 1, 1) := by decide +kernel
theorem dX12_tenant_69 : decode cX12_tenant 69 = .ok (.iaload, 1) := by decide +kernel
theorem dX12_tenant_70 : decode cX12_tenant 70 = .ok (.ireturn, 1) := by decide +kernel
theorem dX12_tenant_71 : decode cX12_tenant 71 = .ok (.aload_n 0, 1) := by decide +kernel
theorem dX12_tenant_72 : decode cX12_tenant 72 = .ok (.getfield 70, 3) := by decide +kernel
theorem dX12_tenant_75 : decode cX12_tenant 75 = .ok (.iload_n 1, 1) := by decide +kernel
theorem dX12_tenant_76 : decode cX12_tenant 76 = .ok (.iaload, 1) := by decide +kernel
theorem dX12_tenant_77 : decode cX12_tenant 77 = .ok (.ireturn, 1) := by decide +kernel
theorem dX12_tenant_78 : decode cX12_tenant 78 = .ok (.aload_n 0, 1) := by decide +kernel
theorem dX12_tenant_79 : decode cX12_tenant 79 = .ok (.getfield 73, 3) := by decide +kernel
theorem dX12_tenant_82 : decode cX12_tenant 82 = .ok (.iload_n 1, 1) := by decide +kernel
theorem dX12_tenant_83 : decode cX12_tenant 83 = .ok (.iaload, 1) := by decide +kernel
theorem dX12_tenant_84 : decode cX12_tenant 84 = .ok (.ireturn, 1) := by decide +kernel
theorem dX12_tenant_85 : decode cX12_tenant 85 = .ok (.aload_n 0, 1) := by decide +kernel
theorem dX12_tenant_86 : decode cX12_tenant 86 = .ok (.getfield 76, 3) := by decide +kernel
theorem dX12_tenant_89 : decode cX12_tenant 89 = .ok (.iload_n 1, 1) := by decide +kernel
theorem dX12_tenant_90 : decode cX12_tenant 90 = .ok (.iaload, 1) := by decide +kernel
theorem dX12_tenant_91 : decode cX12_tenant 91 = .ok (.ireturn, 1) := by decide +kernel
theorem dX12_tenant_92 : decode cX12_tenant 92 = .ok (.aload_n 0, 1) := by decide +kernel
theorem dX12_tenant_93 : decode cX12_tenant 93 = .ok (.getfield 79, 3) := by decide +kernel
theorem dX12_tenant_96 : decode cX12_tenant 96 = .ok (.iload_n 1, 1) := by decide +kernel
theorem dX12_tenant_97 : decode cX12_tenant 97 = .ok (.iaload, 1) := by decide +kernel
theorem dX12_tenant_98 : decode cX12_tenant 98 = .ok (.ireturn, 1) := by decide +kernel
theorem dX12_tenant_99 : decode cX12_tenant 99 = .ok (.aload_n 0, 1) := by decide +kernel
theorem dX12_tenant_100 : decode cX12_tenant 100 = .ok (.getfield 88, 3) := by decide +kernel
theorem dX12_tenant_103 : decode cX12_tenant 103 = .ok (.iload_n 1, 1) := by decide +kernel
theorem dX12_tenant_104 : decode cX12_tenant 104 = .ok (.iaload, 1) := by decide +kernel
theorem dX12_tenant_105 : decode cX12_tenant 105 = .ok (.ireturn, 1) := by decide +kernel
theorem dX12_tenant_106 : decode cX12_tenant 106 = .ok (.aload_n 0, 1) := by decide +kernel
theorem dX12_tenant_107 : decode cX12_tenant 107 = .ok (.getfield 88, 3) := by decide +kernel
theorem dX12_tenant_110 : decode cX12_tenant 110 = .ok (.bipush 8, 2) := by decide +kernel
theorem dX12_tenant_112 : decode cX12_tenant 112 = .ok (.iload_n 1, 1) := by decide +kernel
theorem dX12_tenant_113 : decode cX12_tenant 113 = .ok (.iadd, 1) := by decide +kernel
theorem dX12_tenant_114 : decode cX12_tenant 114 = .ok (.iaload, 1) := by decide +kernel
theorem dX12_tenant_115 : decode cX12_tenant 115 = .ok (.ireturn, 1) := by decide +kernel
theorem dX12_tenant_116 : decode cX12_tenant 116 = .ok (.aload_n 0, 1) := by decide +kernel
theorem dX12_tenant_117 : decode cX12_tenant 117 = .ok (.getfield 88, 3) := by decide +kernel
theorem dX12_tenant_120 : decode cX12_tenant 120 = .ok (.bipush 16, 2) := by decide +kernel
theorem dX12_tenant_122 : decode cX12_tenant 122 = .ok (.iload_n 1, 1) := by decide +kernel
theorem dX12_tenant_123 : decode cX12_tenant 123 = .ok (.iadd, 1) := by decide +kernel
theorem dX12_tenant_124 : decode cX12_tenant 124 = .ok (.iaload, 1) := by decide +kernel
theorem dX12_tenant_125 : decode cX12_tenant 125 = .ok (.ireturn, 1) := by decide +kernel
theorem dX12_tenant_126 : decode cX12_tenant 126 = .ok (.aload_n 0, 1) := by decide +kernel
theorem dX12_tenant_127 : decode cX12_tenant 127 = .ok (.iload_n 1, 1) := by decide +kernel
theorem dX12_tenant_128 : decode cX12_tenant 128 = .ok (.invokevirtual 397, 3) := by decide +kernel
theorem dX12_tenant_131 : decode cX12_tenant 131 = .ok (.ireturn, 1) := by decide +kernel
theorem dX12_tenant_132 : decode cX12_tenant 132 = .ok (.iconst (-1), 1) := by decide +kernel
theorem dX12_tenant_133 : decode cX12_tenant 133 = .ok (.ireturn, 1) := by decide +kernel
theorem dX12_worth_0 : decode cX12_worth 0 = .ok (.aload_n 0, 1) := by decide +kernel
theorem dX12_worth_1 : decode cX12_worth 1 = .ok (.invokevirtual 394, 3) := by decide +kernel
theorem dX12_worth_4 : decode cX12_worth 4 = .ok (.aload_n 0, 1) := by decide +kernel
theorem dX12_worth_5 : decode cX12_worth 5 = .ok (.iload_n 1, 1) := by decide +kernel
theorem dX12_worth_6 : decode cX12_worth 6 = .ok (.iload_n 2, 1) := by decide +kernel
theorem dX12_worth_7 : decode cX12_worth 7 = .ok (.iload_n 3, 1) := by decide +kernel
theorem dX12_worth_8 : decode cX12_worth 8 = .ok (.iload 4, 2) := by decide +kernel
theorem dX12_worth_10 : decode cX12_worth 10 = .ok (.invokevirtual 400, 3) := by decide +kernel
theorem dX12_worth_13 : decode cX12_worth 13 = .ok (.ifCond .eq 13, 3) := by decide +kernel
theorem dX12_worth_16 : decode cX12_worth 16 = .ok (.iload 5, 2) := by decide +kernel
theorem dX12_worth_18 : decode cX12_worth 18 = .ok (.iconst 0, 1) := by decide +kernel
theorem dX12_worth_19 : decode cX12_worth 19 = .ok (.iconst 1, 1) := by decide +kernel
theorem dX12_worth_20 : decode cX12_worth 20 = .ok (.invokestatic 368, 3) := by decide +kernel
theorem dX12_worth_23 : decode cX12_worth 23 = .ok (.ifCond .ne 5, 3) := by decide +kernel
theorem dX12_worth_26 : decode cX12_worth 26 = .ok (.iconst (-1), 1) := by decide +kernel
theorem dX12_worth_27 : decode cX12_worth 27 = .ok (.ireturn, 1) := by decide +kernel
theorem dX12_worth_28 : decode cX12_worth 28 = .ok (.iload 5, 2) := by decide +kernel
theorem dX12_worth_30 : decode cX12_worth 30 = .ok (.ifCond .ne 14, 3) := by decide +kernel
theorem dX12_worth_33 : decode cX12_worth 33 = .ok (.aload_n 0, 1) := by decide +kernel
theorem dX12_worth_34 : decode cX12_worth 34 = .ok (.iload_n 2, 1) := by decide +kernel
theorem dX12_worth_35 : decode cX12_worth 35 = .ok (.iload_n 3, 1) := by decide +kernel
theorem dX12_worth_36 : decode cX12_worth 36 = .ok (.iload 4, 2) := by decide +kernel
theorem dX12_worth_38 : decode cX12_worth 38 = .ok (.invokevirtual 404, 3) := by decide +kernel
theorem dX12_worth_41 : decode cX12_worth 41 = .ok (.goto 9, 3) := by decide +kernel
theorem dX12_worth_44 : decode cX12_worth 44 = .ok (.aload_n 0, 1) := by decide +kernel
theorem dX12_worth_45 : decode cX12_worth 45 = .ok (.iload_n 2, 1) := by decide +kernel
theorem dX12_worth_46 : decode cX12_worth 46 = .ok (.iload_n 3, 1) := by decide +kernel
theorem dX12_worth_47 : decode cX12_worth 47 = .ok (.invokevirtual 385, 3) := by decide +kernel
theorem dX12_worth_50 : decode cX12_worth 50 = .ok (.ireturn, 1) := by decide +kernel
theorem dX12_act_0 : decode cX12_act 0 = .ok (.aload_n 0, 1) := by decide +kernel
theorem dX12_act_1 : decode cX12_act 1 = .ok (.getfield 356, 3) := by decide +kernel
theorem dX12_act_4 : decode cX12_act 4 = .ok (.bipush 40, 2) := by decide +kernel
theorem dX12_act_6 : decode cX12_act 6 = .ok (.if_icmp .ne 43, 3) := by decide +kernel
theorem dX12_act_9 : decode cX12_act 9 = .ok (.iconst 0, 1) := by decide +kernel
theorem dX12_act_10 : decode cX12_act 10 = .ok (.istore_n 1, 1) := by decide +kernel
theorem dX12_act_11 : decode cX12_act 11 = .ok (.iload_n 1, 1) := by decide +kernel
theorem dX12_act_12 : decode cX12_act 12 = .ok (.sipush 1092, 3) := by decide +kernel
theorem dX12_act_15 : decode cX12_act 15 = .ok (.if_icmp .ge 24, 3) := by decide +kernel
theorem dX12_act_18 : decode cX12_act 18 = .ok (.aload_n 0, 1) := by decide +kernel
theorem dX12_act_19 : decode cX12_act 19 = .ok (.getfield 91, 3) := by decide +kernel
theorem dX12_act_22 : decode cX12_act 22 = .ok (.iload_n 1, 1) := by decide +kernel
theorem dX12_act_23 : decode cX12_act 23 = .ok (.aload_n 0, 1) := by decide +kernel
theorem dX12_act_24 : decode cX12_act 24 = .ok (.getfield 91, 3) := by decide +kernel
theorem dX12_act_27 : decode cX12_act 27 = .ok (.bipush 28, 2) := by decide +kernel
theorem dX12_act_29 : decode cX12_act 29 = .ok (.iload_n 1, 1) := by decide +kernel
theorem dX12_act_30 : decode cX12_act 30 = .ok (.iadd, 1) := by decide +kernel
theorem dX12_act_31 : decode cX12_act 31 = .ok (.iaload, 1) := by decide +kernel
theorem dX12_act_32 : decode cX12_act 32 = .ok (.iastore, 1) := by decide +kernel
theorem dX12_act_33 : decode cX12_act 33 = .ok (.iinc 1 1, 3) := by decide +kernel
theorem dX12_act_36 : decode cX12_act 36 = .ok (.goto (-25), 3) := by decide +kernel
theorem dX12_act_39 : decode cX12_act 39 = .ok (.aload_n 0, 1) := by decide +kernel
theorem dX12_act_40 : decode cX12_act 40 = .ok (.dup, 1) := by decide +kernel
theorem dX12_act_41 : decode cX12_act 41 = .ok (.getfield 356, 3) := by decide +kernel
theorem dX12_act_44 : decode cX12_act 44 = .ok (.iconst 1, 1) := by decide +kernel
theorem dX12_act_45 : decode cX12_act 45 = .ok (.isub, 1) := by decide +kernel
theorem dX12_act_46 : decode cX12_act 46 = .ok (.putfield 356, 3) := by decide +kernel
theorem dX12_act_49 : decode cX12_act 49 = .ok (.iconst 0, 1) := by decide +kernel
theorem dX12_act_50 : decode cX12_act 50 = .ok (.istore_n 1, 1) := by decide +kernel
theorem dX12_act_51 : decode cX12_act 51 = .ok (.iload_n 1, 1) := by decide +kernel
theorem dX12_act_52 : decode cX12_act 52 = .ok (.bipush 28, 2) := by decide +kernel
theorem dX12_act_54 : decode cX12_act 54 = .ok (.if_icmp .ge 29, 3) := by decide +kernel
theorem dX12_act_57 : decode cX12_act 57 = .ok (.aload_n 0, 1) := by decide +kernel
theorem dX12_act_58 : decode cX12_act 58 = .ok (.getfield 91, 3) := by decide +kernel
theorem dX12_act_61 : decode cX12_act 61 = .ok (.bipush 28, 2) := by decide +kernel
theorem dX12_act_63 : decode cX12_act 63 = .ok (.aload_n 0, 1) := by decide +kernel
theorem dX12_act_64 : decode cX12_act 64 = .ok (.getfield 356, 3) := by decide +kernel
theorem dX12_act_67 : decode cX12_act 67 = .ok (.imul, 1) := by decide +kernel
theorem dX12_act_68 : decode cX12_act 68 = .ok (.iload_n 1, 1) := by decide +kernel
theorem dX12_act_69 : decode cX12_act 69 = .ok (.iadd, 1) := by decide +kernel
theorem dX12_act_70 : decode cX12_act 70 = .ok (.aload_n 0, 1) := by decide +kernel
theorem dX12_act_71 : decode cX12_act 71 = .ok (.getfield 85, 3) := by decide +kernel
theorem dX12_act_74 : decode cX12_act 74 = .ok (.iload_n 1, 1) := by decide +kernel
theorem dX12_act_75 : decode cX12_act 75 = .ok (.iaload, 1) := by decide +kernel
theorem dX12_act_76 : decode cX12_act 76 = .ok (.iastore, 1) := by decide +kernel
theorem dX12_act_77 : decode cX12_act 77 = .ok (.iinc 1 1, 3) := by decide +kernel
theorem dX12_act_80 : decode cX12_act 80 = .ok (.goto (-29), 3) := by decide +kernel
theorem dX12_act_83 : decode cX12_act 83 = .ok (.aload_n 0, 1) := by decide +kernel
theorem dX12_act_84 : decode cX12_act 84 = .ok (.dup, 1) := by decide +kernel
theorem dX12_act_85 : decode cX12_act 85 = .ok (.getfield 356, 3) := by decide +kernel
theorem dX12_act_88 : decode cX12_act 88 = .ok (.iconst 1, 1) := by decide +kernel
theorem dX12_act_89 : decode cX12_act 89 = .ok (.iadd, 1) := by decide +kernel
theorem dX12_act_90 : decode cX12_act 90 = .ok (.putfield 356, 3) := by decide +kernel
theorem dX12_act_93 : decode cX12_act 93 = .ok (.aload_n 0, 1) := by decide +kernel
theorem dX12_act_94 : decode cX12_act 94 = .ok (.iconst 0, 1) := by decide +kernel
theorem dX12_act_95 : decode cX12_act 95 = .ok (.putfield 359, 3) := by decide +kernel
theorem dX12_act_98 : decode cX12_act 98 = .ok (.return_, 1) := by decide +kernel
theorem dX12_exchange_0 : decode cX12_exchange 0 = .ok (.iconst 0, 1) := by decide +kernel
theorem dX12_exchange_1 : decode cX12_exchange 1 = .ok (.istore_n 2, 1) := by decide +kernel
theorem dX12_exchange_2 : decode cX12_exchange 2 = .ok (.iload_n 2, 1) := by decide +kernel
theorem dX12_exchange_3 : decode cX12_exchange 3 = .ok (.bipush 28, 2) := by decide +kernel
theorem dX12_exchange_5 : decode cX12_exchange 5 = .ok (.if_icmp .ge 39, 3) := by decide +kernel
theorem dX12_exchange_8 : decode cX12_exchange 8 = .ok (.aload_n 0, 1) := by decide +kernel
theorem dX12_exchange_9 : decode cX12_exchange 9 = .ok (.getfield 91, 3) := by decide +kernel
theorem dX12_exchange_12 : decode cX12_exchange 12 = .ok (.iload_n 1, 1) := by decide +kernel
theorem dX12_exchange_13 : decode cX12_exchange 13 = .ok (.iload_n 2, 1) := by decide +kernel
theorem dX12_exchange_14 : decode cX12_exchange 14 = .ok (.iadd, 1) := by decide +kernel
theorem dX12_exchange_15 : decode cX12_exchange 15 = .ok (.iaload, 1) := by decide +kernel
theorem dX12_exchange_16 : decode cX12_exchange 16 = .ok (.istore_n 3, 1) := by decide +kernel
theorem dX12_exchange_17 : decode cX12_exchange 17 = .ok (.aload_n 0, 1) := by decide +kernel
theorem dX12_exchange_18 : decode cX12_exchange 18 = .ok (.getfield 91, 3) := by decide +kernel
theorem dX12_exchange_21 : decode cX12_exchange 21 = .ok (.iload_n 1, 1) := by decide +kernel
theorem dX12_exchange_22 : decode cX12_exchange 22 = .ok (.iload_n 2, 1) := by decide +kernel
theorem dX12_exchange_23 : decode cX12_exchange 23 = .ok (.iadd, 1) := by decide +kernel
theorem dX12_exchange_24 : decode cX12_exchange 24 = .ok (.aload_n 0, 1) := by decide +kernel
theorem dX12_exchange_25 : decode cX12_exchange 25 = .ok (.getfield 85, 3) := by decide +kernel
theorem dX12_exchange_28 : decode cX12_exchange 28 = .ok (.iload_n 2, 1) := by decide +kernel
theorem dX12_exchange_29 : decode cX12_exchange 29 = .ok (.iaload, 1) := by decide +kernel
theorem dX12_exchange_30 : decode cX12_exchange 30 = .ok (.iastore, 1) := by decide +kernel
theorem dX12_exchange_31 : decode cX12_exchange 31 = .ok (.aload_n 0, 1) := by decide +kernel
theorem dX12_exchange_32 : decode cX12_exchange 32 = .ok (.getfield 85, 3) := by decide +kernel
theorem dX12_exchange_35 : decode cX12_exchange 35 = .ok (.iload_n 2, 1) := by decide +kernel
theorem dX12_exchange_36 : decode cX12_exchange 36 = .ok (.iload_n 3, 1) := by decide +kernel
theorem dX12_exchange_37 : decode cX12_exchange 37 = .ok (.iastore, 1) := by decide +kernel
theorem dX12_exchange_38 : decode cX12_exchange 38 = .ok (.iinc 2 1, 3) := by decide +kernel
theorem dX12_exchange_41 : decode cX12_exchange 41 = .ok (.goto (-39), 3) := by decide +kernel
theorem dX12_exchange_44 : decode cX12_exchange 44 = .ok (.return_, 1) := by decide +kernel
theorem dX12_climb_0 : decode cX12_climb 0 = .ok (.aload_n 0, 1) := by decide +kernel
theorem dX12_climb_1 : decode cX12_climb 1 = .ok (.invokevirtual 394, 3) := by decide +kernel
theorem dX12_climb_4 : decode cX12_climb 4 = .ok (.aload_n 0, 1) := by decide +kernel
theorem dX12_climb_5 : decode cX12_climb 5 = .ok (.iload_n 1, 1) := by decide +kernel
theorem dX12_climb_6 : decode cX12_climb 6 = .ok (.iload_n 2, 1) := by decide +kernel
theorem dX12_climb_7 : decode cX12_climb 7 = .ok (.iload_n 3, 1) := by decide +kernel
theorem dX12_climb_8 : decode cX12_climb 8 = .ok (.iload 4, 2) := by decide +kernel
theorem dX12_climb_10 : decode cX12_climb 10 = .ok (.invokevirtual 400, 3) := by decide +kernel
theorem dX12_climb_13 : decode cX12_climb 13 = .ok (.ifCond .ne 5, 3) := by decide +kernel
theorem dX12_climb_16 : decode cX12_climb 16 = .ok (.iconst (-1), 1) := by decide +kernel
theorem dX12_climb_17 : decode cX12_climb 17 = .ok (.ireturn, 1) := by decide +kernel
theorem dX12_climb_18 : decode cX12_climb 18 = .ok (.aload_n 0, 1) := by decide +kernel
theorem dX12_climb_19 : decode cX12_climb 19 = .ok (.invokevirtual 407, 3) := by decide +kernel
theorem dX12_climb_22 : decode cX12_climb 22 = .ok (.aload_n 0, 1) := by decide +kernel
theorem dX12_climb_23 : decode cX12_climb 23 = .ok (.getfield 88, 3) := by decide +kernel
theorem dX12_climb_26 : decode cX12_climb 26 = .ok (.bipush 27, 2) := by decide +kernel
theorem dX12_climb_28 : decode cX12_climb 28 = .ok (.aload_n 0, 1) := by decide +kernel
theorem dX12_climb_29 : decode cX12_climb 29 = .ok (.getfield 88, 3) := by decide +kernel
theorem dX12_climb_32 : decode cX12_climb 32 = .ok (.bipush 27, 2) := by decide +kernel
theorem dX12_climb_34 : decode cX12_climb 34 = .ok (.iaload, 1) := by decide +kernel
theorem dX12_climb_35 : decode cX12_climb 35 = .ok (.sipush 137, 3) := by decide +kernel
theorem dX12_climb_38 : decode cX12_climb 38 = .ok (.imul, 1) := by decide +kernel
theorem dX12_climb_39 : decode cX12_climb 39 = .ok (.bipush 71, 2) := by decide +kernel
theorem dX12_climb_41 : decode cX12_climb 41 = .ok (.iadd, 1) := by decide +kernel
theorem dX12_climb_42 : decode cX12_climb 42 = .ok (.sipush 1000, 3) := by decide +kernel
theorem dX12_climb_45 : decode cX12_climb 45 = .ok (.irem, 1) := by decide +kernel
theorem dX12_climb_46 : decode cX12_climb 46 = .ok (.iastore, 1) := by decide +kernel
theorem dX12_climb_47 : decode cX12_climb 47 = .ok (.aload_n 0, 1) := by decide +kernel
theorem dX12_climb_48 : decode cX12_climb 48 = .ok (.getfield 88, 3) := by decide +kernel
theorem dX12_climb_51 : decode cX12_climb 51 = .ok (.bipush 27, 2) := by decide +kernel
theorem dX12_climb_53 : decode cX12_climb 53 = .ok (.iaload, 1) := by decide +kernel
theorem dX12_climb_54 : decode cX12_climb 54 = .ok (.bipush 100, 2) := by decide +kernel
theorem dX12_climb_56 : decode cX12_climb 56 = .ok (.irem, 1) := by decide +kernel
theorem dX12_climb_57 : decode cX12_climb 57 = .ok (.aload_n 0, 1) := by decide +kernel
theorem dX12_climb_58 : decode cX12_climb 58 = .ok (.getfield 79, 3) := by decide +kernel
theorem dX12_climb_61 : decode cX12_climb 61 = .ok (.iload_n 1, 1) := by decide +kernel
theorem dX12_climb_62 : decode cX12_climb 62 = .ok (.iaload, 1) := by decide +kernel
theorem dX12_climb_63 : decode cX12_climb 63 = .ok (.if_icmp .ge 7, 3) := by decide +kernel
theorem dX12_climb_66 : decode cX12_climb 66 = .ok (.iconst 0, 1) := by decide +kernel
theorem dX12_climb_67 : decode cX12_climb 67 = .ok (.goto 11, 3) := by decide +kernel
theorem dX12_climb_70 : decode cX12_climb 70 = .ok (.aload_n 0, 1) := by decide +kernel
theorem dX12_climb_71 : decode cX12_climb 71 = .ok (.iload_n 2, 1) := by decide +kernel
theorem dX12_climb_72 : decode cX12_climb 72 = .ok (.iload_n 3, 1) := by decide +kernel
theorem dX12_climb_73 : decode cX12_climb 73 = .ok (.iload 4, 2) := by decide +kernel
theorem dX12_climb_75 : decode cX12_climb 75 = .ok (.invokevirtual 404, 3) := by decide +kernel
theorem dX12_climb_78 : decode cX12_climb 78 = .ok (.istore 5, 2) := by decide +kernel
theorem dX12_climb_80 : decode cX12_climb 80 = .ok (.aload_n 0, 1) := by decide +kernel
theorem dX12_climb_81 : decode cX12_climb 81 = .ok (.iload_n 1, 1) := by decide +kernel
theorem dX12_climb_82 : decode cX12_climb 82 = .ok (.iload_n 2, 1) := by decide +kernel
theorem dX12_climb_83 : decode cX12_climb 83 = .ok (.iload_n 3, 1) := by decide +kernel
theorem dX12_climb_84 : decode cX12_climb 84 = .ok (.iload 5, 2) := by decide +kernel
theorem dX12_climb_86 : decode cX12_climb 86 = .ok (.invokevirtual 410, 3) := by decide +kernel
theorem dX12_climb_89 : decode cX12_climb 89 = .ok (.aload_n 0, 1) := by decide +kernel
theorem dX12_climb_90 : decode cX12_climb 90 = .ok (.invokevirtual 414, 3) := by decide +kernel
theorem dX12_climb_93 : decode cX12_climb 93 = .ok (.iload 5, 2) := by decide +kernel
theorem dX12_climb_95 : decode cX12_climb 95 = .ok (.ireturn, 1) := by decide +kernel
theorem dX12_give_0 : decode cX12_give 0 = .ok (.aload_n 0, 1) := by decide +kernel
theorem dX12_give_1 : decode cX12_give 1 = .ok (.iload_n 1, 1) := by decide +kernel
theorem dX12_give_2 : decode cX12_give 2 = .ok (.invokevirtual 382, 3) := by decide +kernel
theorem dX12_give_5 : decode cX12_give 5 = .ok (.ifCond .eq 50, 3) := by decide +kernel
theorem dX12_give_8 : decode cX12_give 8 = .ok (.aload_n 0, 1) := by decide +kernel
theorem dX12_give_9 : decode cX12_give 9 = .ok (.iload_n 2, 1) := by decide +kernel
theorem dX12_give_10 : decode cX12_give 10 = .ok (.invokevirtual 382, 3) := by decide +kernel
theorem dX12_give_13 : decode cX12_give 13 = .ok (.ifCond .eq 42, 3) := by decide +kernel
theorem dX12_give_16 : decode cX12_give 16 = .ok (.iload_n 1, 1) := by decide +kernel
theorem dX12_give_17 : decode cX12_give 17 = .ok (.iload_n 2, 1) := by decide +kernel
theorem dX12_give_18 : decode cX12_give 18 = .ok (.if_icmp .eq 37, 3) := by decide +kernel
theorem dX12_give_21 : decode cX12_give 21 = .ok (.iload_n 3, 1) := by decide +kernel
theorem dX12_give_22 : decode cX12_give 22 = .ok (.iconst 1, 1) := by decide +kernel
theorem dX12_give_23 : decode cX12_give 23 = .ok (.aload_n 0, 1) := by decide +kernel
theorem dX12_give_24 : decode cX12_give 24 = .ok (.getfield 85, 3) := by decide +kernel
theorem dX12_give_27 : decode cX12_give 27 = .ok (.bipush 8, 2) := by decide +kernel
theorem dX12_give_29 : decode cX12_give 29 = .ok (.iload_n 1, 1) := by decide +kernel
theorem dX12_give_30 : decode cX12_give 30 = .ok (.iadd, 1) := by decide +kernel
theorem dX12_give_31 : decode cX12_give 31 = .ok (.iaload, 1) := by decide +kernel
theorem dX12_give_32 : decode cX12_give 32 = .ok (.invokestatic 368, 3) := by decide +kernel
theorem dX12_give_35 : decode cX12_give 35 = .ok (.ifCond .eq 20, 3) := by decide +kernel
theorem dX12_give_38 : decode cX12_give 38 = .ok (.aload_n 0, 1) := by decide +kernel
theorem dX12_give_39 : decode cX12_give 39 = .ok (.getfield 85, 3) := by decide +kernel
theorem dX12_give_42 : decode cX12_give 42 = .ok (.bipush 8, 2) := by decide +kernel
theorem dX12_give_44 : decode cX12_give 44 = .ok (.iload_n 2, 1) := by decide +kernel
theorem dX12_give_45 : decode cX12_give 45 = .ok (.iadd, 1) := by decide +kernel
theorem dX12_give_46 : decode cX12_give 46 = .ok (.iaload, 1) := by decide +kernel
theorem dX12_give_47 : decode cX12_give 47 = .ok (.iload_n 3, 1) := by decide +kernel
theorem dX12_give_48 : decode cX12_give 48 = .ok (.iadd, 1) := by decide +kernel
theorem dX12_give_49 : decode cX12_give 49 = .ok (.sipush 9999, 3) := by decide +kernel
theorem dX12_give_52 : decode cX12_give 52 = .ok (.if_icmp .le 5, 3) := by decide +kernel
theorem dX12_give_55 : decode cX12_give 55 = .ok (.iconst (-1), 1) := by decide +kernel
theorem dX12_give_56 : decode cX12_give 56 = .ok (.ireturn, 1) := by decide +kernel
theorem dX12_give_57 : decode cX12_give 57 = .ok (.aload_n 0, 1) := by decide +kernel
theorem dX12_give_58 : decode cX12_give 58 = .ok (.invokevirtual 407, 3) := by decide +kernel
theorem dX12_give_61 : decode cX12_give 61 = .ok (.aload_n 0, 1) := by decide +kernel
theorem dX12_give_62 : decode cX12_give 62 = .ok (.getfield 85, 3) := by decide +kernel
theorem dX12_give_65 : decode cX12_give 65 = .ok (.bipush 8, 2) := by decide +kernel
theorem dX12_give_67 : decode cX12_give 67 = .ok (.iload_n 1, 1) := by decide +kernel
theorem dX12_give_68 : decode cX12_give 68 = .ok (.iadd, 1) := by decide +kernel
theorem dX12_give_69 : decode cX12_give 69 = .ok (.dup2, 1) := by decide +kernel
theorem dX12_give_70 : decode cX12_give 70 = .ok (.iaload, 1) := by decide +kernel
theorem dX12_give_71 : decode cX12_give 71 = .ok (.iload_n 3, 1) := by decide +kernel
theorem dX12_give_72 : decode cX12_give 72 = .ok (.isub, 1) := by decide +kernel
theorem dX12_give_73 : decode cX12_give 73 = .ok (.iastore, 1) := by decide +kernel
theorem dX12_give_74 : decode cX12_give 74 = .ok (.aload_n 0, 1) := by decide +kernel
theorem dX12_give_75 : decode cX12_give 75 = .ok (.getfield 85, 3) := by decide +kernel
theorem dX12_give_78 : decode cX12_give 78 = .ok (.bipush 8, 2) := by decide +kernel
theorem dX12_give_80 : decode cX12_give 80 = .ok (.iload_n 2, 1) := by decide +kernel
theorem dX12_give_81 : decode cX12_give 81 = .ok (.iadd, 1) := by decide +kernel
theorem dX12_give_82 : decode cX12_give 82 = .ok (.dup2, 1) := by decide +kernel
theorem dX12_give_83 : decode cX12_give 83 = .ok (.iaload, 1) := by decide +kernel
theorem dX12_give_84 : decode cX12_give 84 = .ok (.iload_n 3, 1) := by decide +kernel
theorem dX12_give_85 : decode cX12_give 85 = .ok (.iadd, 1) := by decide +kernel
theorem dX12_give_86 : decode cX12_give 86 = .ok (.iastore, 1) := by decide +kernel
theorem dX12_give_87 : decode cX12_give 87 = .ok (.aload_n 0, 1) := by decide +kernel
theorem dX12_give_88 : decode cX12_give 88 = .ok (.getfield 85, 3) := by decide +kernel
theorem dX12_give_91 : decode cX12_give 91 = .ok (.bipush 8, 2) := by decide +kernel
theorem dX12_give_93 : decode cX12_give 93 = .ok (.iload_n 2, 1) := by decide +kernel
theorem dX12_give_94 : decode cX12_give 94 = .ok (.iadd, 1) := by decide +kernel
theorem dX12_give_95 : decode cX12_give 95 = .ok (.iaload, 1) := by decide +kernel
theorem dX12_give_96 : decode cX12_give 96 = .ok (.ireturn, 1) := by decide +kernel
theorem dX12_week_0 : decode cX12_week 0 = .ok (.aload_n 0, 1) := by decide +kernel
theorem dX12_week_1 : decode cX12_week 1 = .ok (.getfield 85, 3) := by decide +kernel
theorem dX12_week_4 : decode cX12_week 4 = .ok (.bipush 26, 2) := by decide +kernel
theorem dX12_week_6 : decode cX12_week 6 = .ok (.iaload, 1) := by decide +kernel
theorem dX12_week_7 : decode cX12_week 7 = .ok (.sipush 999, 3) := by decide +kernel
theorem dX12_week_10 : decode cX12_week 10 = .ok (.if_icmp .ne 5, 3) := by decide +kernel
theorem dX12_week_13 : decode cX12_week 13 = .ok (.iconst (-1), 1) := by decide +kernel
theorem dX12_week_14 : decode cX12_week 14 = .ok (.ireturn, 1) := by decide +kernel
theorem dX12_week_15 : decode cX12_week 15 = .ok (.aload_n 0, 1) := by decide +kernel
theorem dX12_week_16 : decode cX12_week 16 = .ok (.invokevirtual 407, 3) := by decide +kernel
theorem dX12_week_19 : decode cX12_week 19 = .ok (.aload_n 0, 1) := by decide +kernel
theorem dX12_week_20 : decode cX12_week 20 = .ok (.invokevirtual 394, 3) := by decide +kernel
theorem dX12_week_23 : decode cX12_week 23 = .ok (.aload_n 0, 1) := by decide +kernel
theorem dX12_week_24 : decode cX12_week 24 = .ok (.invokevirtual 417, 3) := by decide +kernel
theorem dX12_week_27 : decode cX12_week 27 = .ok (.aload_n 0, 1) := by decide +kernel
theorem dX12_week_28 : decode cX12_week 28 = .ok (.invokevirtual 414, 3) := by decide +kernel
theorem dX12_week_31 : decode cX12_week 31 = .ok (.aload_n 0, 1) := by decide +kernel
theorem dX12_week_32 : decode cX12_week 32 = .ok (.getfield 85, 3) := by decide +kernel
theorem dX12_week_35 : decode cX12_week 35 = .ok (.bipush 25, 2) := by decide +kernel
theorem dX12_week_37 : decode cX12_week 37 = .ok (.iaload, 1) := by decide +kernel
theorem dX12_week_38 : decode cX12_week 38 = .ok (.ireturn, 1) := by decide +kernel
theorem dX12_undo_0 : decode cX12_undo 0 = .ok (.aload_n 0, 1) := by decide +kernel
theorem dX12_undo_1 : decode cX12_undo 1 = .ok (.getfield 356, 3) := by decide +kernel
theorem dX12_undo_4 : decode cX12_undo 4 = .ok (.ifCond .ne 5, 3) := by decide +kernel
theorem dX12_undo_7 : decode cX12_undo 7 = .ok (.iconst 0, 1) := by decide +kernel
theorem dX12_undo_8 : decode cX12_undo 8 = .ok (.ireturn, 1) := by decide +kernel
theorem dX12_undo_9 : decode cX12_undo 9 = .ok (.aload_n 0, 1) := by decide +kernel
theorem dX12_undo_10 : decode cX12_undo 10 = .ok (.dup, 1) := by decide +kernel
theorem dX12_undo_11 : decode cX12_undo 11 = .ok (.getfield 356, 3) := by decide +kernel
theorem dX12_undo_14 : decode cX12_undo 14 = .ok (.iconst 1, 1) := by decide +kernel
theorem dX12_undo_15 : decode cX12_undo 15 = .ok (.isub, 1) := by decide +kernel
theorem dX12_undo_16 : decode cX12_undo 16 = .ok (.putfield 356, 3) := by decide +kernel
theorem dX12_undo_19 : decode cX12_undo 19 = .ok (.aload_n 0, 1) := by decide +kernel
theorem dX12_undo_20 : decode cX12_undo 20 = .ok (.dup, 1) := by decide +kernel
theorem dX12_undo_21 : decode cX12_undo 21 = .ok (.getfield 359, 3) := by decide +kernel
theorem dX12_undo_24 : decode cX12_undo 24 = .ok (.iconst 1, 1) := by decide +kernel
theorem dX12_undo_25 : decode cX12_undo 25 = .ok (.iadd, 1) := by decide +kernel
theorem dX12_undo_26 : decode cX12_undo 26 = .ok (.putfield 359, 3) := by decide +kernel
theorem dX12_undo_29 : decode cX12_undo 29 = .ok (.aload_n 0, 1) := by decide +kernel
theorem dX12_undo_30 : decode cX12_undo 30 = .ok (.bipush 28, 2) := by decide +kernel
theorem dX12_undo_32 : decode cX12_undo 32 = .ok (.aload_n 0, 1) := by decide +kernel
theorem dX12_undo_33 : decode cX12_undo 33 = .ok (.getfield 356, 3) := by decide +kernel
theorem dX12_undo_36 : decode cX12_undo 36 = .ok (.imul, 1) := by decide +kernel
theorem dX12_undo_37 : decode cX12_undo 37 = .ok (.invokevirtual 420, 3) := by decide +kernel
theorem dX12_undo_40 : decode cX12_undo 40 = .ok (.iconst 1, 1) := by decide +kernel
theorem dX12_undo_41 : decode cX12_undo 41 = .ok (.ireturn, 1) := by decide +kernel
theorem dX12_redo_0 : decode cX12_redo 0 = .ok (.aload_n 0, 1) := by decide +kernel
theorem dX12_redo_1 : decode cX12_redo 1 = .ok (.getfield 359, 3) := by decide +kernel
theorem dX12_redo_4 : decode cX12_redo 4 = .ok (.ifCond .ne 5, 3) := by decide +kernel
theorem dX12_redo_7 : decode cX12_redo 7 = .ok (.iconst 0, 1) := by decide +kernel
theorem dX12_redo_8 : decode cX12_redo 8 = .ok (.ireturn, 1) := by decide +kernel
theorem dX12_redo_9 : decode cX12_redo 9 = .ok (.aload_n 0, 1) := by decide +kernel
theorem dX12_redo_10 : decode cX12_redo 10 = .ok (.bipush 28, 2) := by decide +kernel
theorem dX12_redo_12 : decode cX12_redo 12 = .ok (.aload_n 0, 1) := by decide +kernel
theorem dX12_redo_13 : decode cX12_redo 13 = .ok (.getfield 356, 3) := by decide +kernel
theorem dX12_redo_16 : decode cX12_redo 16 = .ok (.imul, 1) := by decide +kernel
theorem dX12_redo_17 : decode cX12_redo 17 = .ok (.invokevirtual 420, 3) := by decide +kernel
theorem dX12_redo_20 : decode cX12_redo 20 = .ok (.aload_n 0, 1) := by decide +kernel
theorem dX12_redo_21 : decode cX12_redo 21 = .ok (.dup, 1) := by decide +kernel
theorem dX12_redo_22 : decode cX12_redo 22 = .ok (.getfield 356, 3) := by decide +kernel
theorem dX12_redo_25 : decode cX12_redo 25 = .ok (.iconst 1, 1) := by decide +kernel
theorem dX12_redo_26 : decode cX12_redo 26 = .ok (.iadd, 1) := by decide +kernel
theorem dX12_redo_27 : decode cX12_redo 27 = .ok (.putfield 356, 3) := by decide +kernel
theorem dX12_redo_30 : decode cX12_redo 30 = .ok (.aload_n 0, 1) := by decide +kernel
theorem dX12_redo_31 : decode cX12_redo 31 = .ok (.dup, 1) := by decide +kernel
theorem dX12_redo_32 : decode cX12_redo 32 = .ok (.getfield 359, 3) := by decide +kernel
theorem dX12_redo_35 : decode cX12_redo 35 = .ok (.iconst 1, 1) := by decide +kernel
theorem dX12_redo_36 : decode cX12_redo 36 = .ok (.isub, 1) := by decide +kernel
theorem dX12_redo_37 : decode cX12_redo 37 = .ok (.putfield 359, 3) := by decide +kernel
theorem dX12_redo_40 : decode cX12_redo 40 = .ok (.iconst 1, 1) := by decide +kernel
theorem dX12_redo_41 : decode cX12_redo 41 = .ok (.ireturn, 1) := by decide +kernel
theorem dX12_power_0 : decode cX12_power 0 = .ok (.iconst 1, 1) := by decide +kernel
theorem dX12_power_1 : decode cX12_power 1 = .ok (.istore_n 2, 1) := by decide +kernel
theorem dX12_power_2 : decode cX12_power 2 = .ok (.iconst 0, 1) := by decide +kernel
theorem dX12_power_3 : decode cX12_power 3 = .ok (.istore_n 3, 1) := by decide +kernel
theorem dX12_power_4 : decode cX12_power 4 = .ok (.iload_n 3, 1) := by decide +kernel
theorem dX12_power_5 : decode cX12_power 5 = .ok (.iload_n 1, 1) := by decide +kernel
theorem dX12_power_6 : decode cX12_power 6 = .ok (.if_icmp .ge 13, 3) := by decide +kernel
theorem dX12_power_9 : decode cX12_power 9 = .ok (.iload_n 2, 1) := by decide +kernel
theorem dX12_power_10 : decode cX12_power 10 = .ok (.iload_n 0, 1) := by decide +kernel
theorem dX12_power_11 : decode cX12_power 11 = .ok (.imul, 1) := by decide +kernel
theorem dX12_power_12 : decode cX12_power 12 = .ok (.istore_n 2, 1) := by decide +kernel
theorem dX12_power_13 : decode cX12_power 13 = .ok (.iinc 3 1, 3) := by decide +kernel
theorem dX12_power_16 : decode cX12_power 16 = .ok (.goto (-12), 3) := by decide +kernel
theorem dX12_power_19 : decode cX12_power 19 = .ok (.iload_n 2, 1) := by decide +kernel
theorem dX12_power_20 : decode cX12_power 20 = .ok (.ireturn, 1) := by decide +kernel
theorem dX12_paidBy_0 : decode cX12_paidBy 0 = .ok (.iload_n 3, 1) := by decide +kernel
theorem dX12_paidBy_1 : decode cX12_paidBy 1 = .ok (.istore 4, 2) := by decide +kernel
theorem dX12_paidBy_3 : decode cX12_paidBy 3 = .ok (.iconst 0, 1) := by decide +kernel
theorem dX12_paidBy_4 : decode cX12_paidBy 4 = .ok (.istore 5, 2) := by decide +kernel
theorem dX12_paidBy_6 : decode cX12_paidBy 6 = .ok (.iload_n 2, 1) := by decide +kernel
theorem dX12_paidBy_7 : decode cX12_paidBy 7 = .ok (.iconst 1, 1) := by decide +kernel
theorem dX12_paidBy_8 : decode cX12_paidBy 8 = .ok (.isub, 1) := by decide +kernel
theorem dX12_paidBy_9 : decode cX12_paidBy 9 = .ok (.istore 6, 2) := by decide +kernel
theorem dX12_paidBy_11 : decode cX12_paidBy 11 = .ok (.iload 6, 2) := by decide +kernel
theorem dX12_paidBy_13 : decode cX12_paidBy 13 = .ok (.ifCond .lt 46, 3) := by decide +kernel
theorem dX12_paidBy_16 : decode cX12_paidBy 16 = .ok (.aload_n 0, 1) := by decide +kernel
theorem dX12_paidBy_17 : decode cX12_paidBy 17 = .ok (.getfield 94, 3) := by decide +kernel
theorem dX12_paidBy_20 : decode cX12_paidBy 20 = .ok (.iload 6, 2) := by decide +kernel
theorem dX12_paidBy_22 : decode cX12_paidBy 22 = .ok (.iconst 1, 1) := by decide +kernel
theorem dX12_paidBy_23 : decode cX12_paidBy 23 = .ok (.iload 4, 2) := by decide +kernel
theorem dX12_paidBy_25 : decode cX12_paidBy 25 = .ok (.aload_n 0, 1) := by decide +kernel
theorem dX12_paidBy_26 : decode cX12_paidBy 26 = .ok (.getfield 82, 3) := by decide +kernel
theorem dX12_paidBy_29 : decode cX12_paidBy 29 = .ok (.irem, 1) := by decide +kernel
theorem dX12_paidBy_30 : decode cX12_paidBy 30 = .ok (.iadd, 1) := by decide +kernel
theorem dX12_paidBy_31 : decode cX12_paidBy 31 = .ok (.iastore, 1) := by decide +kernel
theorem dX12_paidBy_32 : decode cX12_paidBy 32 = .ok (.iload 4, 2) := by decide +kernel
theorem dX12_paidBy_34 : decode cX12_paidBy 34 = .ok (.aload_n 0, 1) := by decide +kernel
theorem dX12_paidBy_35 : decode cX12_paidBy 35 = .ok (.getfield 82, 3) := by decide +kernel
theorem dX12_paidBy_38 : decode cX12_paidBy 38 = .ok (.idiv, 1) := by decide +kernel
theorem dX12_paidBy_39 : decode cX12_paidBy 39 = .ok (.istore 4, 2) := by decide +kernel
theorem dX12_paidBy_41 : decode cX12_paidBy 41 = .ok (.iload 5, 2) := by decide +kernel
theorem dX12_paidBy_43 : decode cX12_paidBy 43 = .ok (.aload_n 0, 1) := by decide +kernel
theorem dX12_paidBy_44 : decode cX12_paidBy 44 = .ok (.getfield 94, 3) := by decide +kernel
theorem dX12_paidBy_47 : decode cX12_paidBy 47 = .ok (.iload 6, 2) := by decide +kernel
theorem dX12_paidBy_49 : decode cX12_paidBy 49 = .ok (.iaload, 1) := by decide +kernel
theorem dX12_paidBy_50 : decode cX12_paidBy 50 = .ok (.iadd, 1) := by decide +kernel
theorem dX12_paidBy_51 : decode cX12_paidBy 51 = .ok (.istore 5, 2) := by decide +kernel
theorem dX12_paidBy_53 : decode cX12_paidBy 53 = .ok (.iinc 6 (-1), 3) := by decide +kernel
theorem dX12_paidBy_56 : decode cX12_paidBy 56 = .ok (.goto (-45), 3) := by decide +kernel
theorem dX12_paidBy_59 : decode cX12_paidBy 59 = .ok (.iload 5, 2) := by decide +kernel
theorem dX12_paidBy_61 : decode cX12_paidBy 61 = .ok (.aload_n 0, 1) := by decide +kernel
theorem dX12_paidBy_62 : decode cX12_paidBy 62 = .ok (.getfield 85, 3) := by decide +kernel
theorem dX12_paidBy_65 : decode cX12_paidBy 65 = .ok (.iload_n 1, 1) := by decide +kernel
theorem dX12_paidBy_66 : decode cX12_paidBy 66 = .ok (.iaload, 1) := by decide +kernel
theorem dX12_paidBy_67 : decode cX12_paidBy 67 = .ok (.if_icmp .le 5, 3) := by decide +kernel
theorem dX12_paidBy_70 : decode cX12_paidBy 70 = .ok (.iconst (-1), 1) := by decide +kernel
theorem dX12_paidBy_71 : decode cX12_paidBy 71 = .ok (.ireturn, 1) := by decide +kernel
theorem dX12_paidBy_72 : decode cX12_paidBy 72 = .ok (.aload_n 0, 1) := by decide +kernel
theorem dX12_paidBy_73 : decode cX12_paidBy 73 = .ok (.invokevirtual 394, 3) := by decide +kernel
theorem dX12_paidBy_76 : decode cX12_paidBy 76 = .ok (.iconst 0, 1) := by decide +kernel
theorem dX12_paidBy_77 : decode cX12_paidBy 77 = .ok (.istore 6, 2) := by decide +kernel
theorem dX12_paidBy_79 : decode cX12_paidBy 79 = .ok (.iload 6, 2) := by decide +kernel
theorem dX12_paidBy_81 : decode cX12_paidBy 81 = .ok (.iload_n 2, 1) := by decide +kernel
theorem dX12_paidBy_82 : decode cX12_paidBy 82 = .ok (.if_icmp .ge 35, 3) := by decide +kernel
theorem dX12_paidBy_85 : decode cX12_paidBy 85 = .ok (.aload_n 0, 1) := by decide +kernel
theorem dX12_paidBy_86 : decode cX12_paidBy 86 = .ok (.iload_n 1, 1) := by decide +kernel
theorem dX12_paidBy_87 : decode cX12_paidBy 87 = .ok (.aload_n 0, 1) := by decide +kernel
theorem dX12_paidBy_88 : decode cX12_paidBy 88 = .ok (.getfield 94, 3) := by decide +kernel
theorem dX12_paidBy_91 : decode cX12_paidBy 91 = .ok (.iload 6, 2) := by decide +kernel
theorem dX12_paidBy_93 : decode cX12_paidBy 93 = .ok (.iaload, 1) := by decide +kernel
theorem dX12_paidBy_94 : decode cX12_paidBy 94 = .ok (.iconst (-1), 1) := by decide +kernel
theorem dX12_paidBy_95 : decode cX12_paidBy 95 = .ok (.aload_n 0, 1) := by decide +kernel
theorem dX12_paidBy_96 : decode cX12_paidBy 96 = .ok (.aload_n 0, 1) := by decide +kernel
theorem dX12_paidBy_97 : decode cX12_paidBy 97 = .ok (.getfield 94, 3) := by decide +kernel
theorem dX12_paidBy_100 : decode cX12_paidBy 100 = .ok (.iload 6, 2) := by decide +kernel
theorem dX12_paidBy_102 : decode cX12_paidBy 102 = .ok (.iaload, 1) := by decide +kernel
theorem dX12_paidBy_103 : decode cX12_paidBy 103 = .ok (.iconst (-1), 1) := by decide +kernel
theorem dX12_paidBy_104 : decode cX12_paidBy 104 = .ok (.iconst 0, 1) := by decide +kernel
theorem dX12_paidBy_105 : decode cX12_paidBy 105 = .ok (.invokevirtual 404, 3) := by decide +kernel
theorem dX12_paidBy_108 : decode cX12_paidBy 108 = .ok (.invokevirtual 410, 3) := by decide +kernel
theorem dX12_paidBy_111 : decode cX12_paidBy 111 = .ok (.iinc 6 1, 3) := by decide +kernel
theorem dX12_paidBy_114 : decode cX12_paidBy 114 = .ok (.goto (-35), 3) := by decide +kernel
theorem dX12_paidBy_117 : decode cX12_paidBy 117 = .ok (.aload_n 0, 1) := by decide +kernel
theorem dX12_paidBy_118 : decode cX12_paidBy 118 = .ok (.iload_n 1, 1) := by decide +kernel
theorem dX12_paidBy_119 : decode cX12_paidBy 119 = .ok (.invokevirtual 397, 3) := by decide +kernel
theorem dX12_paidBy_122 : decode cX12_paidBy 122 = .ok (.ifCond .ne 8, 3) := by decide +kernel
theorem dX12_paidBy_125 : decode cX12_paidBy 125 = .ok (.iload 5, 2) := by decide +kernel
theorem dX12_paidBy_127 : decode cX12_paidBy 127 = .ok (.goto 4, 3) := by decide +kernel
theorem dX12_paidBy_130 : decode cX12_paidBy 130 = .ok (.iconst (-1), 1) := by decide +kernel
theorem dX12_paidBy_131 : decode cX12_paidBy 131 = .ok (.ireturn, 1) := by decide +kernel
theorem dX12_fewest_0 : decode cX12_fewest 0 = .ok (.aload_n 0, 1) := by decide +kernel
theorem dX12_fewest_1 : decode cX12_fewest 1 = .ok (.iconst 0, 1) := by decide +kernel
theorem dX12_fewest_2 : decode cX12_fewest 2 = .ok (.putfield 365, 3) := by decide +kernel
theorem dX12_fewest_5 : decode cX12_fewest 5 = .ok (.aload_n 0, 1) := by decide +kernel
theorem dX12_fewest_6 : decode cX12_fewest 6 = .ok (.iload_n 1, 1) := by decide +kernel
theorem dX12_fewest_7 : decode cX12_fewest 7 = .ok (.invokevirtual 382, 3) := by decide +kernel
theorem dX12_fewest_10 : decode cX12_fewest 10 = .ok (.ifCond .ne 5, 3) := by decide +kernel
theorem dX12_fewest_13 : decode cX12_fewest 13 = .ok (.iconst (-1), 1) := by decide +kernel
theorem dX12_fewest_14 : decode cX12_fewest 14 = .ok (.ireturn, 1) := by decide +kernel
theorem dX12_fewest_15 : decode cX12_fewest 15 = .ok (.iconst 0, 1) := by decide +kernel
theorem dX12_fewest_16 : decode cX12_fewest 16 = .ok (.istore_n 2, 1) := by decide +kernel
theorem dX12_fewest_17 : decode cX12_fewest 17 = .ok (.iload_n 2, 1) := by decide +kernel
theorem dX12_fewest_18 : decode cX12_fewest 18 = .ok (.iconst 4, 1) := by decide +kernel
theorem dX12_fewest_19 : decode cX12_fewest 19 = .ok (.if_icmp .gt 108, 3) := by decide +kernel
theorem dX12_fewest_22 : decode cX12_fewest 22 = .ok (.ldc_w 423, 3) := by decide +kernel
theorem dX12_fewest_25 : decode cX12_fewest 25 = .ok (.istore_n 3, 1) := by decide +kernel
theorem dX12_fewest_26 : decode cX12_fewest 26 = .ok (.iconst 0, 1) := by decide +kernel
theorem dX12_fewest_27 : decode cX12_fewest 27 = .ok (.istore 4, 2) := by decide +kernel
theorem dX12_fewest_29 : decode cX12_fewest 29 = .ok (.iload 4, 2) := by decide +kernel
theorem dX12_fewest_31 : decode cX12_fewest 31 = .ok (.aload_n 0, 1) := by decide +kernel
theorem dX12_fewest_32 : decode cX12_fewest 32 = .ok (.getfield 82, 3) := by decide +kernel
theorem dX12_fewest_35 : decode cX12_fewest 35 = .ok (.iload_n 2, 1) := by decide +kernel
theorem dX12_fewest_36 : decode cX12_fewest 36 = .ok (.invokestatic 424, 3) := by decide +kernel
theorem dX12_fewest_39 : decode cX12_fewest 39 = .ok (.if_icmp .ge 65, 3) := by decide +kernel
theorem dX12_fewest_42 : decode cX12_fewest 42 = .ok (.aload_n 0, 1) := by decide +kernel
theorem dX12_fewest_43 : decode cX12_fewest 43 = .ok (.iload_n 1, 1) := by decide +kernel
theorem dX12_fewest_44 : decode cX12_fewest 44 = .ok (.iload_n 2, 1) := by decide +kernel
theorem dX12_fewest_45 : decode cX12_fewest 45 = .ok (.iload 4, 2) := by decide +kernel
theorem dX12_fewest_47 : decode cX12_fewest 47 = .ok (.invokevirtual 427, 3) := by decide +kernel
theorem dX12_fewest_50 : decode cX12_fewest 50 = .ok (.istore 5, 2) := by decide +kernel
theorem dX12_fewest_52 : decode cX12_fewest 52 = .ok (.iload 5, 2) := by decide +kernel
theorem dX12_fewest_54 : decode cX12_fewest 54 = .ok (.ifCond .lt 44, 3) := by decide +kernel
theorem dX12_fewest_57 : decode cX12_fewest 57 = .ok (.iload 5, 2) := by decide +kernel
theorem dX12_fewest_59 : decode cX12_fewest 59 = .ok (.iload_n 3, 1) := by decide +kernel
theorem dX12_fewest_60 : decode cX12_fewest 60 = .ok (.if_icmp .lt 6, 3) := by decide +kernel
theorem dX12_fewest_63 : decode cX12_fewest 63 = .ok (.goto 35, 3) := by decide +kernel
theorem dX12_fewest_66 : decode cX12_fewest 66 = .ok (.iload 5, 2) := by decide +kernel
theorem dX12_fewest_68 : decode cX12_fewest 68 = .ok (.istore_n 3, 1) := by decide +kernel
theorem dX12_fewest_69 : decode cX12_fewest 69 = .ok (.iconst 0, 1) := by decide +kernel
theorem dX12_fewest_70 : decode cX12_fewest 70 = .ok (.istore 6, 2) := by decide +kernel
theorem dX12_fewest_72 : decode cX12_fewest 72 = .ok (.iload 6, 2) := by decide +kernel
theorem dX12_fewest_74 : decode cX12_fewest 74 = .ok (.iload_n 2, 1) := by decide +kernel
theorem dX12_fewest_75 : decode cX12_fewest 75 = .ok (.if_icmp .ge 23, 3) := by decide +kernel
theorem dX12_fewest_78 : decode cX12_fewest 78 = .ok (.aload_n 0, 1) := by decide +kernel
theorem dX12_fewest_79 : decode cX12_fewest 79 = .ok (.getfield 97, 3) := by decide +kernel
theorem dX12_fewest_82 : decode cX12_fewest 82 = .ok (.iload 6, 2) := by decide +kernel
theorem dX12_fewest_84 : decode cX12_fewest 84 = .ok (.aload_n 0, 1) := by decide +kernel
theorem dX12_fewest_85 : decode cX12_fewest 85 = .ok (.getfield 94, 3) := by decide +kernel
theorem dX12_fewest_88 : decode cX12_fewest 88 = .ok (.iload 6, 2) := by decide +kernel
theorem dX12_fewest_90 : decode cX12_fewest 90 = .ok (.iaload, 1) := by decide +kernel
theorem dX12_fewest_91 : decode cX12_fewest 91 = .ok (.iastore, 1) := by decide +kernel
theorem dX12_fewest_92 : decode cX12_fewest 92 = .ok (.iinc 6 1, 3) := by decide +kernel
theorem dX12_fewest_95 : decode cX12_fewest 95 = .ok (.goto (-23), 3) := by decide +kernel
theorem dX12_fewest_98 : decode cX12_fewest 98 = .ok (.iinc 4 1, 3) := by decide +kernel
theorem dX12_fewest_101 : decode cX12_fewest 101 = .ok (.goto (-72), 3) := by decide +kernel
theorem dX12_fewest_104 : decode cX12_fewest 104 = .ok (.iload_n 3, 1) := by decide +kernel
theorem dX12_fewest_105 : decode cX12_fewest 105 = .ok (.ldc_w 423, 3) := by decide +kernel
theorem dX12_fewest_108 : decode cX12_fewest 108 = .ok (.if_icmp .ne 6, 3) := by decide +kernel
theorem dX12_fewest_111 : decode cX12_fewest 111 = .ok (.goto 10, 3) := by decide +kernel
theorem dX12_fewest_114 : decode cX12_fewest 114 = .ok (.aload_n 0, 1) := by decide +kernel
theorem dX12_fewest_115 : decode cX12_fewest 115 = .ok (.iload_n 2, 1) := by decide +kernel
theorem dX12_fewest_116 : decode cX12_fewest 116 = .ok (.putfield 365, 3) := by decide +kernel
theorem dX12_fewest_119 : decode cX12_fewest 119 = .ok (.iload_n 2, 1) := by decide +kernel
theorem dX12_fewest_120 : decode cX12_fewest 120 = .ok (.ireturn, 1) := by decide +kernel
theorem dX12_fewest_121 : decode cX12_fewest 121 = .ok (.iinc 2 1, 3) := by decide +kernel
theorem dX12_fewest_124 : decode cX12_fewest 124 = .ok (.goto (-107), 3) := by decide +kernel
theorem dX12_fewest_127 : decode cX12_fewest 127 = .ok (.iconst (-1), 1) := by decide +kernel
theorem dX12_fewest_128 : decode cX12_fewest 128 = .ok (.ireturn, 1) := by decide +kernel
theorem dX12_carriesOf_0 : decode cX12_carriesOf 0 = .ok (.iconst 0, 1) := by decide +kernel
theorem dX12_carriesOf_1 : decode cX12_carriesOf 1 = .ok (.istore_n 3, 1) := by decide +kernel
theorem dX12_carriesOf_2 : decode cX12_carriesOf 2 = .ok (.iconst 1, 1) := by decide +kernel
theorem dX12_carriesOf_3 : decode cX12_carriesOf 3 = .ok (.istore 4, 2) := by decide +kernel
theorem dX12_carriesOf_5 : decode cX12_carriesOf 5 = .ok (.iload 4, 2) := by decide +kernel
theorem dX12_carriesOf_7 : decode cX12_carriesOf 7 = .ok (.aload_n 0, 1) := by decide +kernel
theorem dX12_carriesOf_8 : decode cX12_carriesOf 8 = .ok (.getfield 82, 3) := by decide +kernel
theorem dX12_carriesOf_11 : decode cX12_carriesOf 11 = .ok (.if_icmp .gt 28, 3) := by decide +kernel
theorem dX12_carriesOf_14 : decode cX12_carriesOf 14 = .ok (.aload_n 0, 1) := by decide +kernel
theorem dX12_carriesOf_15 : decode cX12_carriesOf 15 = .ok (.iload 4, 2) := by decide +kernel
theorem dX12_carriesOf_17 : decode cX12_carriesOf 17 = .ok (.iload_n 2, 1) := by decide +kernel
theorem dX12_carriesOf_18 : decode cX12_carriesOf 18 = .ok (.invokevirtual 385, 3) := by decide +kernel
theorem dX12_carriesOf_21 : decode cX12_carriesOf 21 = .ok (.aload_n 0, 1) := by decide +kernel
theorem dX12_carriesOf_22 : decode cX12_carriesOf 22 = .ok (.getfield 88, 3) := by decide +kernel
theorem dX12_carriesOf_25 : decode cX12_carriesOf 25 = .ok (.iload_n 1, 1) := by decide +kernel
theorem dX12_carriesOf_26 : decode cX12_carriesOf 26 = .ok (.iaload, 1) := by decide +kernel
theorem dX12_carriesOf_27 : decode cX12_carriesOf 27 = .ok (.if_icmp .gt 6, 3) := by decide +kernel
theorem dX12_carriesOf_30 : decode cX12_carriesOf 30 = .ok (.iload 4, 2) := by decide +kernel
theorem dX12_carriesOf_32 : decode cX12_carriesOf 32 = .ok (.istore_n 3, 1) := by decide +kernel
theorem dX12_carriesOf_33 : decode cX12_carriesOf 33 = .ok (.iinc 4 1, 3) := by decide +kernel
theorem dX12_carriesOf_36 : decode cX12_carriesOf 36 = .ok (.goto (-31), 3) := by decide +kernel
theorem dX12_carriesOf_39 : decode cX12_carriesOf 39 = .ok (.iload_n 3, 1) := by decide +kernel
theorem dX12_carriesOf_40 : decode cX12_carriesOf 40 = .ok (.ireturn, 1) := by decide +kernel
theorem dX12_carries_0 : decode cX12_carries 0 = .ok (.aload_n 0, 1) := by decide +kernel
theorem dX12_carries_1 : decode cX12_carries 1 = .ok (.iload_n 1, 1) := by decide +kernel
theorem dX12_carries_2 : decode cX12_carries 2 = .ok (.invokevirtual 382, 3) := by decide +kernel
theorem dX12_carries_5 : decode cX12_carries 5 = .ok (.ifCond .eq 16, 3) := by decide +kernel
theorem dX12_carries_8 : decode cX12_carries 8 = .ok (.aload_n 0, 1) := by decide +kernel
theorem dX12_carries_9 : decode cX12_carries 9 = .ok (.iload_n 2, 1) := by decide +kernel
theorem dX12_carries_10 : decode cX12_carries 10 = .ok (.invokevirtual 382, 3) := by decide +kernel
theorem dX12_carries_13 : decode cX12_carries 13 = .ok (.ifCond .eq 8, 3) := by decide +kernel
theorem dX12_carries_16 : decode cX12_carries 16 = .ok (.iload_n 1, 1) := by decide +kernel
theorem dX12_carries_17 : decode cX12_carries 17 = .ok (.iload_n 2, 1) := by decide +kernel
theorem dX12_carries_18 : decode cX12_carries 18 = .ok (.if_icmp .ne 5, 3) := by decide +kernel
theorem dX12_carries_21 : decode cX12_carries 21 = .ok (.iconst (-1), 1) := by decide +kernel
theorem dX12_carries_22 : decode cX12_carries 22 = .ok (.ireturn, 1) := by decide +kernel
theorem dX12_carries_23 : decode cX12_carries 23 = .ok (.aload_n 0, 1) := by decide +kernel
theorem dX12_carries_24 : decode cX12_carries 24 = .ok (.invokevirtual 394, 3) := by decide +kernel
theorem dX12_carries_27 : decode cX12_carries 27 = .ok (.aload_n 0, 1) := by decide +kernel
theorem dX12_carries_28 : decode cX12_carries 28 = .ok (.iload_n 1, 1) := by decide +kernel
theorem dX12_carries_29 : decode cX12_carries 29 = .ok (.iload_n 2, 1) := by decide +kernel
theorem dX12_carries_30 : decode cX12_carries 30 = .ok (.invokevirtual 430, 3) := by decide +kernel
theorem dX12_carries_33 : decode cX12_carries 33 = .ok (.ireturn, 1) := by decide +kernel
theorem dX12_isMore_0 : decode cX12_isMore 0 = .ok (.iload_n 0, 1) := by decide +kernel
theorem dX12_isMore_1 : decode cX12_isMore 1 = .ok (.iload_n 2, 1) := by decide +kernel
theorem dX12_isMore_2 : decode cX12_isMore 2 = .ok (.if_icmp .gt 13, 3) := by decide +kernel
theorem dX12_isMore_5 : decode cX12_isMore 5 = .ok (.iload_n 0, 1) := by decide +kernel
theorem dX12_isMore_6 : decode cX12_isMore 6 = .ok (.iload_n 2, 1) := by decide +kernel
theorem dX12_isMore_7 : decode cX12_isMore 7 = .ok (.if_icmp .ne 12, 3) := by decide +kernel
theorem dX12_isMore_10 : decode cX12_isMore 10 = .ok (.iload_n 1, 1) := by decide +kernel
theorem dX12_isMore_11 : decode cX12_isMore 11 = .ok (.iload_n 3, 1) := by decide +kernel
theorem dX12_isMore_12 : decode cX12_isMore 12 = .ok (.if_icmp .ge 7, 3) := by decide +kernel
theorem dX12_isMore_15 : decode cX12_isMore 15 = .ok (.iconst 1, 1) := by decide +kernel
theorem dX12_isMore_16 : decode cX12_isMore 16 = .ok (.goto 4, 3) := by decide +kernel
theorem dX12_isMore_19 : decode cX12_isMore 19 = .ok (.iconst 0, 1) := by decide +kernel
theorem dX12_isMore_20 : decode cX12_isMore 20 = .ok (.ireturn, 1) := by decide +kernel
theorem dX12_layDoers_0 : decode cX12_layDoers 0 = .ok (.iconst 0, 1) := by decide +kernel
theorem dX12_layDoers_1 : decode cX12_layDoers 1 = .ok (.istore_n 1, 1) := by decide +kernel
theorem dX12_layDoers_2 : decode cX12_layDoers 2 = .ok (.iload_n 1, 1) := by decide +kernel
theorem dX12_layDoers_3 : decode cX12_layDoers 3 = .ok (.sipush 256, 3) := by decide +kernel
theorem dX12_layDoers_6 : decode cX12_layDoers 6 = .ok (.if_icmp .ge 41, 3) := by decide +kernel
theorem dX12_layDoers_9 : decode cX12_layDoers 9 = .ok (.aload_n 0, 1) := by decide +kernel
theorem dX12_layDoers_10 : decode cX12_layDoers 10 = .ok (.getfield 100, 3) := by decide +kernel
theorem dX12_layDoers_13 : decode cX12_layDoers 13 = .ok (.sipush 256, 3) := by decide +kernel
theorem dX12_layDoers_16 : decode cX12_layDoers 16 = .ok (.aload_n 0, 1) := by decide +kernel
theorem dX12_layDoers_17 : decode cX12_layDoers 17 = .ok (.getfield 350, 3) := by decide +kernel
theorem dX12_layDoers_20 : decode cX12_layDoers 20 = .ok (.imul, 1) := by decide +kernel
theorem dX12_layDoers_21 : decode cX12_layDoers 21 = .ok (.iload_n 1, 1) := by decide +kernel
theorem dX12_layDoers_22 : decode cX12_layDoers 22 = .ok (.iadd, 1) := by decide +kernel
theorem dX12_layDoers_23 : decode cX12_layDoers 23 = .ok (.iconst 0, 1) := by decide +kernel
theorem dX12_layDoers_24 : decode cX12_layDoers 24 = .ok (.iastore, 1) := by decide +kernel
theorem dX12_layDoers_25 : decode cX12_layDoers 25 = .ok (.aload_n 0, 1) := by decide +kernel
theorem dX12_layDoers_26 : decode cX12_layDoers 26 = .ok (.getfield 103, 3) := by decide +kernel
theorem dX12_layDoers_29 : decode cX12_layDoers 29 = .ok (.sipush 256, 3) := by decide +kernel
theorem dX12_layDoers_32 : decode cX12_layDoers 32 = .ok (.aload_n 0, 1) := by decide +kernel
theorem dX12_layDoers_33 : decode cX12_layDoers 33 = .ok (.getfield 350, 3) := by decide +kernel
theorem dX12_layDoers_36 : decode cX12_layDoers 36 = .ok (.imul, 1) := by decide +kernel
theorem dX12_layDoers_37 : decode cX12_layDoers 37 = .ok (.iload_n 1, 1) := by decide +kernel
theorem dX12_layDoers_38 : decode cX12_layDoers 38 = .ok (.iadd, 1) := by decide +kernel
theorem dX12_layDoers_39 : decode cX12_layDoers 39 = .ok (.iconst 0, 1) := by decide +kernel
theorem dX12_layDoers_40 : decode cX12_layDoers 40 = .ok (.iastore, 1) := by decide +kernel
theorem dX12_layDoers_41 : decode cX12_layDoers 41 = .ok (.iinc 1 1, 3) := by decide +kernel
theorem dX12_layDoers_44 : decode cX12_layDoers 44 = .ok (.goto (-42), 3) := by decide +kernel
theorem dX12_layDoers_47 : decode cX12_layDoers 47 = .ok (.aload_n 0, 1) := by decide +kernel
theorem dX12_layDoers_48 : decode cX12_layDoers 48 = .ok (.getfield 350, 3) := by decide +kernel
theorem dX12_layDoers_51 : decode cX12_layDoers 51 = .ok (.iconst 1, 1) := by decide +kernel
theorem dX12_layDoers_52 : decode cX12_layDoers 52 = .ok (.isub, 1) := by decide +kernel
theorem dX12_layDoers_53 : decode cX12_layDoers 53 = .ok (.istore_n 1, 1) := by decide +kernel
theorem dX12_layDoers_54 : decode cX12_layDoers 54 = .ok (.iload_n 1, 1) := by decide +kernel
theorem dX12_layDoers_55 : decode cX12_layDoers 55 = .ok (.ifCond .lt 205, 3) := by decide +kernel
theorem dX12_layDoers_58 : decode cX12_layDoers 58 = .ok (.iconst 0, 1) := by decide +kernel
theorem dX12_layDoers_59 : decode cX12_layDoers 59 = .ok (.istore_n 2, 1) := by decide +kernel
theorem dX12_layDoers_60 : decode cX12_layDoers 60 = .ok (.iload_n 2, 1) := by decide +kernel
theorem dX12_layDoers_61 : decode cX12_layDoers 61 = .ok (.sipush 256, 3) := by decide +kernel
theorem dX12_layDoers_64 : decode cX12_layDoers 64 = .ok (.if_icmp .ge 190, 3) := by decide +kernel
theorem dX12_layDoers_67 : decode cX12_layDoers 67 = .ok (.sipush 256, 3) := by decide +kernel
theorem dX12_layDoers_70 : decode cX12_layDoers 70 = .ok (.iload_n 1, 1) := by decide +kernel
theorem dX12_layDoers_71 : decode cX12_layDoers 71 = .ok (.imul, 1) := by decide +kernel
theorem dX12_layDoers_72 : decode cX12_layDoers 72 = .ok (.iload_n 2, 1) := by decide +kernel
theorem dX12_layDoers_73 : decode cX12_layDoers 73 = .ok (.iadd, 1) := by decide +kernel
theorem dX12_layDoers_74 : decode cX12_layDoers 74 = .ok (.istore_n 3, 1) := by decide +kernel
theorem dX12_layDoers_75 : decode cX12_layDoers 75 = .ok (.aload_n 0, 1) := by decide +kernel
theorem dX12_layDoers_76 : decode cX12_layDoers 76 = .ok (.getfield 100, 3) := by decide +kernel
theorem dX12_layDoers_79 : decode cX12_layDoers 79 = .ok (.iload_n 3, 1) := by decide +kernel
theorem dX12_layDoers_80 : decode cX12_layDoers 80 = .ok (.aload_n 0, 1) := by decide +kernel
theorem dX12_layDoers_81 : decode cX12_layDoers 81 = .ok (.getfield 100, 3) := by decide +kernel
theorem dX12_layDoers_84 : decode cX12_layDoers 84 = .ok (.iload_n 3, 1) := by decide +kernel
theorem dX12_layDoers_85 : decode cX12_layDoers 85 = .ok (.sipush 256, 3) := by decide +kernel
theorem dX12_layDoers_88 : decode cX12_layDoers 88 = .ok (.iadd, 1) := by decide +kernel
theorem dX12_layDoers_89 : decode cX12_layDoers 89 = .ok (.iaload, 1) := by decide +kernel
theorem dX12_layDoers_90 : decode cX12_layDoers 90 = .ok (.iastore, 1) := by decide +kernel
theorem dX12_layDoers_91 : decode cX12_layDoers 91 = .ok (.aload_n 0, 1) := by decide +kernel
theorem dX12_layDoers_92 : decode cX12_layDoers 92 = .ok (.getfield 103, 3) := by decide +kernel
theorem dX12_layDoers_95 : decode cX12_layDoers 95 = .ok (.iload_n 3, 1) := by decide +kernel
theorem dX12_layDoers_96 : decode cX12_layDoers 96 = .ok (.aload_n 0, 1) := by decide +kernel
theorem dX12_layDoers_97 : decode cX12_layDoers 97 = .ok (.getfield 103, 3) := by decide +kernel
theorem dX12_layDoers_100 : decode cX12_layDoers 100 = .ok (.iload_n 3, 1) := by decide +kernel
theorem dX12_layDoers_101 : decode cX12_layDoers 101 = .ok (.sipush 256, 3) := by decide +kernel
theorem dX12_layDoers_104 : decode cX12_layDoers 104 = .ok (.iadd, 1) := by decide +kernel
theorem dX12_layDoers_105 : decode cX12_layDoers 105 = .ok (.iaload, 1) := by decide +kernel
theorem dX12_layDoers_106 : decode cX12_layDoers 106 = .ok (.iastore, 1) := by decide +kernel
theorem dX12_layDoers_107 : decode cX12_layDoers 107 = .ok (.iconst 0, 1) := by decide +kernel
theorem dX12_layDoers_108 : decode cX12_layDoers 108 = .ok (.istore 4, 2) := by decide +kernel
theorem dX12_layDoers_110 : decode cX12_layDoers 110 = .ok (.iload 4, 2) := by decide +kernel
theorem dX12_layDoers_112 : decode cX12_layDoers 112 = .ok (.aload_n 0, 1) := by decide +kernel
theorem dX12_layDoers_113 : decode cX12_layDoers 113 = .ok (.getfield 350, 3) := by decide +kernel
theorem dX12_layDoers_116 : decode cX12_layDoers 116 = .ok (.if_icmp .ge 132, 3) := by decide +kernel
theorem dX12_layDoers_119 : decode cX12_layDoers 119 = .ok (.aload_n 0, 1) := by decide +kernel
theorem dX12_layDoers_120 : decode cX12_layDoers 120 = .ok (.getfield 109, 3) := by decide +kernel
theorem dX12_layDoers_123 : decode cX12_layDoers 123 = .ok (.bipush 8, 2) := by decide +kernel
theorem dX12_layDoers_125 : decode cX12_layDoers 125 = .ok (.iload_n 1, 1) := by decide +kernel
theorem dX12_layDoers_126 : decode cX12_layDoers 126 = .ok (.imul, 1) := by decide +kernel
theorem dX12_layDoers_127 : decode cX12_layDoers 127 = .ok (.iload 4, 2) := by decide +kernel
theorem dX12_layDoers_129 : decode cX12_layDoers 129 = .ok (.iadd, 1) := by decide +kernel
theorem dX12_layDoers_130 : decode cX12_layDoers 130 = .ok (.baload, 1) := by decide +kernel
theorem dX12_layDoers_131 : decode cX12_layDoers 131 = .ok (.ifCond .eq 111, 3) := by decide +kernel
theorem dX12_layDoers_134 : decode cX12_layDoers 134 = .ok (.iload_n 2, 1) := by decide +kernel
theorem dX12_layDoers_135 : decode cX12_layDoers 135 = .ok (.iload 4, 2) := by decide +kernel
theorem dX12_layDoers_137 : decode cX12_layDoers 137 = .ok (.ishr, 1) := by decide +kernel
theorem dX12_layDoers_138 : decode cX12_layDoers 138 = .ok (.iconst 1, 1) := by decide +kernel
theorem dX12_layDoers_139 : decode cX12_layDoers 139 = .ok (.iand, 1) := by decide +kernel
theorem dX12_layDoers_140 : decode cX12_layDoers 140 = .ok (.iconst 1, 1) := by decide +kernel
theorem dX12_layDoers_141 : decode cX12_layDoers 141 = .ok (.if_icmp .ne 6, 3) := by decide +kernel
theorem dX12_layDoers_144 : decode cX12_layDoers 144 = .ok (.goto 98, 3) := by decide +kernel
theorem dX12_layDoers_147 : decode cX12_layDoers 147 = .ok (.sipush 256, 3) := by decide +kernel
theorem dX12_layDoers_150 : decode cX12_layDoers 150 = .ok (.iload_n 1, 1) := by decide +kernel
theorem dX12_layDoers_151 : decode cX12_layDoers 151 = .ok (.iconst 1, 1) := by decide +kernel
theorem dX12_layDoers_152 : decode cX12_layDoers 152 = .ok (.iadd, 1) := by decide +kernel
theorem dX12_layDoers_153 : decode cX12_layDoers 153 = .ok (.imul, 1) := by decide +kernel
theorem dX12_layDoers_154 : decode cX12_layDoers 154 = .ok (.iload_n 2, 1) := by decide +kernel
theorem dX12_layDoers_155 : decode cX12_layDoers 155 = .ok (.iconst 1, 1) := by decide +kernel
theorem dX12_layDoers_156 : decode cX12_layDoers 156 = .ok (.iload 4, 2) := by decide +kernel
theorem dX12_layDoers_158 : decode cX12_layDoers 158 = .ok (.ishl, 1) := by decide +kernel
theorem dX12_layDoers_159 : decode cX12_layDoers 159 = .ok (.ior, 1) := by decide +kernel
theorem dX12_layDoers_160 : decode cX12_layDoers 160 = .ok (.iadd, 1) := by decide +kernel
theorem dX12_layDoers_161 : decode cX12_layDoers 161 = .ok (.istore 5, 2) := by decide +kernel
theorem dX12_layDoers_163 : decode cX12_layDoers 163 = .ok (.aload_n 0, 1) := by decide +kernel
theorem dX12_layDoers_164 : decode cX12_layDoers 164 = .ok (.getfield 100, 3) := by decide +kernel
theorem dX12_layDoers_167 : decode cX12_layDoers 167 = .ok (.iload 5, 2) := by decide +kernel
theorem dX12_layDoers_169 : decode cX12_layDoers 169 = .ok (.iaload, 1) := by decide +kernel
theorem dX12_layDoers_170 : decode cX12_layDoers 170 = .ok (.iconst 1, 1) := by decide +kernel
theorem dX12_layDoers_171 : decode cX12_layDoers 171 = .ok (.iadd, 1) := by decide +kernel
theorem dX12_layDoers_172 : decode cX12_layDoers 172 = .ok (.aload_n 0, 1) := by decide +kernel
theorem dX12_layDoers_173 : decode cX12_layDoers 173 = .ok (.getfield 103, 3) := by decide +kernel
theorem dX12_layDoers_176 : decode cX12_layDoers 176 = .ok (.iload 5, 2) := by decide +kernel
theorem dX12_layDoers_178 : decode cX12_layDoers 178 = .ok (.iaload, 1) := by decide +kernel
theorem dX12_layDoers_179 : decode cX12_layDoers 179 = .ok (.aload_n 0, 1) := by decide +kernel
theorem dX12_layDoers_180 : decode cX12_layDoers 180 = .ok (.getfield 106, 3) := by decide +kernel
theorem dX12_layDoers_183 : decode cX12_layDoers 183 = .ok (.iload_n 1, 1) := by decide +kernel
theorem dX12_layDoers_184 : decode cX12_layDoers 184 = .ok (.iaload, 1) := by decide +kernel
theorem dX12_layDoers_185 : decode cX12_layDoers 185 = .ok (.iadd, 1) := by decide +kernel
theorem dX12_layDoers_186 : decode cX12_layDoers 186 = .ok (.aload_n 0, 1) := by decide +kernel
theorem dX12_layDoers_187 : decode cX12_layDoers 187 = .ok (.getfield 100, 3) := by decide +kernel
theorem dX12_layDoers_190 : decode cX12_layDoers 190 = .ok (.iload_n 3, 1) := by decide +kernel
theorem dX12_layDoers_191 : decode cX12_layDoers 191 = .ok (.iaload, 1) := by decide +kernel
theorem dX12_layDoers_192 : decode cX12_layDoers 192 = .ok (.aload_n 0, 1) := by decide +kernel
theorem dX12_layDoers_193 : decode cX12_layDoers 193 = .ok (.getfield 103, 3) := by decide +kernel
theorem dX12_layDoers_196 : decode cX12_layDoers 196 = .ok (.iload_n 3, 1) := by decide +kernel
theorem dX12_layDoers_197 : decode cX12_layDoers 197 = .ok (.iaload, 1) := by decide +kernel
theorem dX12_layDoers_198 : decode cX12_layDoers 198 = .ok (.invokestatic 433, 3) := by decide +kernel
theorem dX12_layDoers_201 : decode cX12_layDoers 201 = .ok (.ifCond .ne 6, 3) := by decide +kernel
theorem dX12_layDoers_204 : decode cX12_layDoers 204 = .ok (.goto 38, 3) := by decide +kernel
theorem dX12_layDoers_207 : decode cX12_layDoers 207 = .ok (.aload_n 0, 1) := by decide +kernel
theorem dX12_layDoers_208 : decode cX12_layDoers 208 = .ok (.getfield 100, 3) := by decide +kernel
theorem dX12_layDoers_211 : decode cX12_layDoers 211 = .ok (.iload_n 3, 1) := by decide +kernel
theorem dX12_layDoers_212 : decode cX12_layDoers 212 = .ok (.aload_n 0, 1) := by decide +kernel
theorem dX12_layDoers_213 : decode cX12_layDoers 213 = .ok (.getfield 100, 3) := by decide +kernel
theorem dX12_layDoers_216 : decode cX12_layDoers 216 = .ok (.iload 5, 2) := by decide +kernel
theorem dX12_layDoers_218 : decode cX12_layDoers 218 = .ok (.iaload, 1) := by decide +kernel
theorem dX12_layDoers_219 : decode cX12_layDoers 219 = .ok (.iconst 1, 1) := by decide +kernel
theorem dX12_layDoers_220 : decode cX12_layDoers 220 = .ok (.iadd, 1) := by decide +kernel
theorem dX12_layDoers_221 : decode cX12_layDoers 221 = .ok (.iastore, 1) := by decide +kernel
theorem dX12_layDoers_222 : decode cX12_layDoers 222 = .ok (.aload_n 0, 1) := by decide +kernel
theorem dX12_layDoers_223 : decode cX12_layDoers 223 = .ok (.getfield 103, 3) := by decide +kernel
theorem dX12_layDoers_226 : decode cX12_layDoers 226 = .ok (.iload_n 3, 1) := by decide +kernel
theorem dX12_layDoers_227 : decode cX12_layDoers 227 = .ok (.aload_n 0, 1) := by decide +kernel
theorem dX12_layDoers_228 : decode cX12_layDoers 228 = .ok (.getfield 103, 3) := by decide +kernel
theorem dX12_layDoers_231 : decode cX12_layDoers 231 = .ok (.iload 5, 2) := by decide +kernel
theorem dX12_layDoers_233 : decode cX12_layDoers 233 = .ok (.iaload, 1) := by decide +kernel
theorem dX12_layDoers_234 : decode cX12_layDoers 234 = .ok (.aload_n 0, 1) := by decide +kernel
theorem dX12_layDoers_235 : decode cX12_layDoers 235 = .ok (.getfield 106, 3) := by decide +kernel
theorem dX12_layDoers_238 : decode cX12_layDoers 238 = .ok (.iload_n 1, 1) := by decide +kernel
theorem dX12_layDoers_239 : decode cX12_layDoers 239 = .ok (.iaload, 1) := by decide +kernel
theorem dX12_layDoers_240 : decode cX12_layDoers 240 = .ok (.iadd, 1) := by decide +kernel
theorem dX12_layDoers_241 : decode cX12_layDoers 241 = .ok (.iastore, 1) := by decide +kernel
theorem dX12_layDoers_242 : decode cX12_layDoers 242 = .ok (.iinc 4 1, 3) := by decide +kernel
theorem dX12_layDoers_245 : decode cX12_layDoers 245 = .ok (.goto (-135), 3) := by decide +kernel
theorem dX12_layDoers_248 : decode cX12_layDoers 248 = .ok (.iinc 2 1, 3) := by decide +kernel
theorem dX12_layDoers_251 : decode cX12_layDoers 251 = .ok (.goto (-191), 3) := by decide +kernel
theorem dX12_layDoers_254 : decode cX12_layDoers 254 = .ok (.iinc 1 (-1), 3) := by decide +kernel
theorem dX12_layDoers_257 : decode cX12_layDoers 257 = .ok (.goto (-203), 3) := by decide +kernel
theorem dX12_layDoers_260 : decode cX12_layDoers 260 = .ok (.return_, 1) := by decide +kernel
theorem dX12_putDoers_0 : decode cX12_putDoers 0 = .ok (.iconst 0, 1) := by decide +kernel
theorem dX12_putDoers_1 : decode cX12_putDoers 1 = .ok (.istore_n 1, 1) := by decide +kernel
theorem dX12_putDoers_2 : decode cX12_putDoers 2 = .ok (.iconst 0, 1) := by decide +kernel
theorem dX12_putDoers_3 : decode cX12_putDoers 3 = .ok (.istore_n 2, 1) := by decide +kernel
theorem dX12_putDoers_4 : decode cX12_putDoers 4 = .ok (.iload_n 2, 1) := by decide +kernel
theorem dX12_putDoers_5 : decode cX12_putDoers 5 = .ok (.aload_n 0, 1) := by decide +kernel
theorem dX12_putDoers_6 : decode cX12_putDoers 6 = .ok (.getfield 350, 3) := by decide +kernel
theorem dX12_putDoers_9 : decode cX12_putDoers 9 = .ok (.if_icmp .ge 154, 3) := by decide +kernel
theorem dX12_putDoers_12 : decode cX12_putDoers 12 = .ok (.aload_n 0, 1) := by decide +kernel
theorem dX12_putDoers_13 : decode cX12_putDoers 13 = .ok (.getfield 97, 3) := by decide +kernel
theorem dX12_putDoers_16 : decode cX12_putDoers 16 = .ok (.iload_n 2, 1) := by decide +kernel
theorem dX12_putDoers_17 : decode cX12_putDoers 17 = .ok (.iconst (-1), 1) := by decide +kernel
theorem dX12_putDoers_18 : decode cX12_putDoers 18 = .ok (.iastore, 1) := by decide +kernel
theorem dX12_putDoers_19 : decode cX12_putDoers 19 = .ok (.aload_n 0, 1) := by decide +kernel
theorem dX12_putDoers_20 : decode cX12_putDoers 20 = .ok (.getfield 350, 3) := by decide +kernel
theorem dX12_putDoers_23 : decode cX12_putDoers 23 = .ok (.iconst 1, 1) := by decide +kernel
theorem dX12_putDoers_24 : decode cX12_putDoers 24 = .ok (.isub, 1) := by decide +kernel
theorem dX12_putDoers_25 : decode cX12_putDoers 25 = .ok (.istore_n 3, 1) := by decide +kernel
theorem dX12_putDoers_26 : decode cX12_putDoers 26 = .ok (.iload_n 3, 1) := by decide +kernel
theorem dX12_putDoers_27 : decode cX12_putDoers 27 = .ok (.ifCond .lt 110, 3) := by decide +kernel
theorem dX12_putDoers_30 : decode cX12_putDoers 30 = .ok (.aload_n 0, 1) := by decide +kernel
theorem dX12_putDoers_31 : decode cX12_putDoers 31 = .ok (.getfield 109, 3) := by decide +kernel
theorem dX12_putDoers_34 : decode cX12_putDoers 34 = .ok (.bipush 8, 2) := by decide +kernel
theorem dX12_putDoers_36 : decode cX12_putDoers 36 = .ok (.iload_n 2, 1) := by decide +kernel
theorem dX12_putDoers_37 : decode cX12_putDoers 37 = .ok (.imul, 1) := by decide +kernel
theorem dX12_putDoers_38 : decode cX12_putDoers 38 = .ok (.iload_n 3, 1) := by decide +kernel
theorem dX12_putDoers_39 : decode cX12_putDoers 39 = .ok (.iadd, 1) := by decide +kernel
theorem dX12_putDoers_40 : decode cX12_putDoers 40 = .ok (.baload, 1) := by decide +kernel
theorem dX12_putDoers_41 : decode cX12_putDoers 41 = .ok (.ifCond .eq 90, 3) := by decide +kernel
theorem dX12_putDoers_44 : decode cX12_putDoers 44 = .ok (.iload_n 1, 1) := by decide +kernel
theorem dX12_putDoers_45 : decode cX12_putDoers 45 = .ok (.iload_n 3, 1) := by decide +kernel
theorem dX12_putDoers_46 : decode cX12_putDoers 46 = .ok (.ishr, 1) := by decide +kernel
theorem dX12_putDoers_47 : decode cX12_putDoers 47 = .ok (.iconst 1, 1) := by decide +kernel
theorem dX12_putDoers_48 : decode cX12_putDoers 48 = .ok (.iand, 1) := by decide +kernel
theorem dX12_putDoers_49 : decode cX12_putDoers 49 = .ok (.iconst 1, 1) := by decide +kernel
theorem dX12_putDoers_50 : decode cX12_putDoers 50 = .ok (.if_icmp .ne 6, 3) := by decide +kernel
theorem dX12_putDoers_53 : decode cX12_putDoers 53 = .ok (.goto 78, 3) := by decide +kernel
theorem dX12_putDoers_56 : decode cX12_putDoers 56 = .ok (.sipush 256, 3) := by decide +kernel
theorem dX12_putDoers_59 : decode cX12_putDoers 59 = .ok (.iload_n 2, 1) := by decide +kernel
theorem dX12_putDoers_60 : decode cX12_putDoers 60 = .ok (.iconst 1, 1) := by decide +kernel
theorem dX12_putDoers_61 : decode cX12_putDoers 61 = .ok (.iadd, 1) := by decide +kernel
theorem dX12_putDoers_62 : decode cX12_putDoers 62 = .ok (.imul, 1) := by decide +kernel
theorem dX12_putDoers_63 : decode cX12_putDoers 63 = .ok (.iload_n 1, 1) := by decide +kernel
theorem dX12_putDoers_64 : decode cX12_putDoers 64 = .ok (.iconst 1, 1) := by decide +kernel
theorem dX12_putDoers_65 : decode cX12_putDoers 65 = .ok (.iload_n 3, 1) := by decide +kernel
theorem dX12_putDoers_66 : decode cX12_putDoers 66 = .ok (.ishl, 1) := by decide +kernel
theorem dX12_putDoers_67 : decode cX12_putDoers 67 = .ok (.ior, 1) := by decide +kernel
theorem dX12_putDoers_68 : decode cX12_putDoers 68 = .ok (.iadd, 1) := by decide +kernel
theorem dX12_putDoers_69 : decode cX12_putDoers 69 = .ok (.istore 4, 2) := by decide +kernel
theorem dX12_putDoers_71 : decode cX12_putDoers 71 = .ok (.aload_n 0, 1) := by decide +kernel
theorem dX12_putDoers_72 : decode cX12_putDoers 72 = .ok (.getfield 100, 3) := by decide +kernel
theorem dX12_putDoers_75 : decode cX12_putDoers 75 = .ok (.iload 4, 2) := by decide +kernel
theorem dX12_putDoers_77 : decode cX12_putDoers 77 = .ok (.iaload, 1) := by decide +kernel
theorem dX12_putDoers_78 : decode cX12_putDoers 78 = .ok (.iconst 1, 1) := by decide +kernel
theorem dX12_putDoers_79 : decode cX12_putDoers 79 = .ok (.iadd, 1) := by decide +kernel
theorem dX12_putDoers_80 : decode cX12_putDoers 80 = .ok (.aload_n 0, 1) := by decide +kernel
theorem dX12_putDoers_81 : decode cX12_putDoers 81 = .ok (.getfield 100, 3) := by decide +kernel
theorem dX12_putDoers_84 : decode cX12_putDoers 84 = .ok (.sipush 256, 3) := by decide +kernel
theorem dX12_putDoers_87 : decode cX12_putDoers 87 = .ok (.iload_n 2, 1) := by decide +kernel
theorem dX12_putDoers_88 : decode cX12_putDoers 88 = .ok (.imul, 1) := by decide +kernel
theorem dX12_putDoers_89 : decode cX12_putDoers 89 = .ok (.iload_n 1, 1) := by decide +kernel
theorem dX12_putDoers_90 : decode cX12_putDoers 90 = .ok (.iadd, 1) := by decide +kernel
theorem dX12_putDoers_91 : decode cX12_putDoers 91 = .ok (.iaload, 1) := by decide +kernel
theorem dX12_putDoers_92 : decode cX12_putDoers 92 = .ok (.if_icmp .ne 39, 3) := by decide +kernel
theorem dX12_putDoers_95 : decode cX12_putDoers 95 = .ok (.aload_n 0, 1) := by decide +kernel
theorem dX12_putDoers_96 : decode cX12_putDoers 96 = .ok (.getfield 103, 3) := by decide +kernel
theorem dX12_putDoers_99 : decode cX12_putDoers 99 = .ok (.iload 4, 2) := by decide +kernel
theorem dX12_putDoers_101 : decode cX12_putDoers 101 = .ok (.iaload, 1) := by decide +kernel
theorem dX12_putDoers_102 : decode cX12_putDoers 102 = .ok (.aload_n 0, 1) := by decide +kernel
theorem dX12_putDoers_103 : decode cX12_putDoers 103 = .ok (.getfield 106, 3) := by decide +kernel
theorem dX12_putDoers_106 : decode cX12_putDoers 106 = .ok (.iload_n 2, 1) := by decide +kernel
theorem dX12_putDoers_107 : decode cX12_putDoers 107 = .ok (.iaload, 1) := by decide +kernel
theorem dX12_putDoers_108 : decode cX12_putDoers 108 = .ok (.iadd, 1) := by decide +kernel
theorem dX12_putDoers_109 : decode cX12_putDoers 109 = .ok (.aload_n 0, 1) := by decide +kernel
theorem dX12_putDoers_110 : decode cX12_putDoers 110 = .ok (.getfield 103, 3) := by decide +kernel
theorem dX12_putDoers_113 : decode cX12_putDoers 113 = .ok (.sipush 256, 3) := by decide +kernel
theorem dX12_putDoers_116 : decode cX12_putDoers 116 = .ok (.iload_n 2, 1) := by decide +kernel
theorem dX12_putDoers_117 : decode cX12_putDoers 117 = .ok (.imul, 1) := by decide +kernel
theorem dX12_putDoers_118 : decode cX12_putDoers 118 = .ok (.iload_n 1, 1) := by decide +kernel
theorem dX12_putDoers_119 : decode cX12_putDoers 119 = .ok (.iadd, 1) := by decide +kernel
theorem dX12_putDoers_120 : decode cX12_putDoers 120 = .ok (.iaload, 1) := by decide +kernel
theorem dX12_putDoers_121 : decode cX12_putDoers 121 = .ok (.if_icmp .ne 10, 3) := by decide +kernel
theorem dX12_putDoers_124 : decode cX12_putDoers 124 = .ok (.aload_n 0, 1) := by decide +kernel
theorem dX12_putDoers_125 : decode cX12_putDoers 125 = .ok (.getfield 97, 3) := by decide +kernel
theorem dX12_putDoers_128 : decode cX12_putDoers 128 = .ok (.iload_n 2, 1) := by decide +kernel
theorem dX12_putDoers_129 : decode cX12_putDoers 129 = .ok (.iload_n 3, 1) := by decide +kernel
theorem dX12_putDoers_130 : decode cX12_putDoers 130 = .ok (.iastore, 1) := by decide +kernel
theorem dX12_putDoers_131 : decode cX12_putDoers 131 = .ok (.iinc 3 (-1), 3) := by decide +kernel
theorem dX12_putDoers_134 : decode cX12_putDoers 134 = .ok (.goto (-108), 3) := by decide +kernel
theorem dX12_putDoers_137 : decode cX12_putDoers 137 = .ok (.aload_n 0, 1) := by decide +kernel
theorem dX12_putDoers_138 : decode cX12_putDoers 138 = .ok (.getfield 97, 3) := by decide +kernel
theorem dX12_putDoers_141 : decode cX12_putDoers 141 = .ok (.iload_n 2, 1) := by decide +kernel
theorem dX12_putDoers_142 : decode cX12_putDoers 142 = .ok (.iaload, 1) := by decide +kernel
theorem dX12_putDoers_143 : decode cX12_putDoers 143 = .ok (.ifCond .lt 14, 3) := by decide +kernel
theorem dX12_putDoers_146 : decode cX12_putDoers 146 = .ok (.iload_n 1, 1) := by decide +kernel
theorem dX12_putDoers_147 : decode cX12_putDoers 147 = .ok (.iconst 1, 1) := by decide +kernel
theorem dX12_putDoers_148 : decode cX12_putDoers 148 = .ok (.aload_n 0, 1) := by decide +kernel
theorem dX12_putDoers_149 : decode cX12_putDoers 149 = .ok (.getfield 97, 3) := by decide +kernel
theorem dX12_putDoers_152 : decode cX12_putDoers 152 = .ok (.iload_n 2, 1) := by decide +kernel
theorem dX12_putDoers_153 : decode cX12_putDoers 153 = .ok (.iaload, 1) := by decide +kernel
theorem dX12_putDoers_154 : decode cX12_putDoers 154 = .ok (.ishl, 1) := by decide +kernel
theorem dX12_putDoers_155 : decode cX12_putDoers 155 = .ok (.ior, 1) := by decide +kernel
theorem dX12_putDoers_156 : decode cX12_putDoers 156 = .ok (.istore_n 1, 1) := by decide +kernel
theorem dX12_putDoers_157 : decode cX12_putDoers 157 = .ok (.iinc 2 1, 3) := by decide +kernel
theorem dX12_putDoers_160 : decode cX12_putDoers 160 = .ok (.goto (-156), 3) := by decide +kernel
theorem dX12_putDoers_163 : decode cX12_putDoers 163 = .ok (.aload_n 0, 1) := by decide +kernel
theorem dX12_putDoers_164 : decode cX12_putDoers 164 = .ok (.aload_n 0, 1) := by decide +kernel
theorem dX12_putDoers_165 : decode cX12_putDoers 165 = .ok (.getfield 350, 3) := by decide +kernel
theorem dX12_putDoers_168 : decode cX12_putDoers 168 = .ok (.putfield 365, 3) := by decide +kernel
theorem dX12_putDoers_171 : decode cX12_putDoers 171 = .ok (.return_, 1) := by decide +kernel
theorem dX12_care_0 : decode cX12_care 0 = .ok (.aload_n 0, 1) := by decide +kernel
theorem dX12_care_1 : decode cX12_care 1 = .ok (.invokevirtual 394, 3) := by decide +kernel
theorem dX12_care_4 : decode cX12_care 4 = .ok (.iconst 0, 1) := by decide +kernel
theorem dX12_care_5 : decode cX12_care 5 = .ok (.istore_n 1, 1) := by decide +kernel
theorem dX12_care_6 : decode cX12_care 6 = .ok (.iload_n 1, 1) := by decide +kernel
theorem dX12_care_7 : decode cX12_care 7 = .ok (.aload_n 0, 1) := by decide +kernel
theorem dX12_care_8 : decode cX12_care 8 = .ok (.getfield 350, 3) := by decide +kernel
theorem dX12_care_11 : decode cX12_care 11 = .ok (.if_icmp .ge 77, 3) := by decide +kernel
theorem dX12_care_14 : decode cX12_care 14 = .ok (.aload_n 0, 1) := by decide +kernel
theorem dX12_care_15 : decode cX12_care 15 = .ok (.getfield 106, 3) := by decide +kernel
theorem dX12_care_18 : decode cX12_care 18 = .ok (.iload_n 1, 1) := by decide +kernel
theorem dX12_care_19 : decode cX12_care 19 = .ok (.iconst 0, 1) := by decide +kernel
theorem dX12_care_20 : decode cX12_care 20 = .ok (.iastore, 1) := by decide +kernel
theorem dX12_care_21 : decode cX12_care 21 = .ok (.iconst 0, 1) := by decide +kernel
theorem dX12_care_22 : decode cX12_care 22 = .ok (.istore_n 2, 1) := by decide +kernel
theorem dX12_care_23 : decode cX12_care 23 = .ok (.iload_n 2, 1) := by decide +kernel
theorem dX12_care_24 : decode cX12_care 24 = .ok (.aload_n 0, 1) := by decide +kernel
theorem dX12_care_25 : decode cX12_care 25 = .ok (.getfield 350, 3) := by decide +kernel
theorem dX12_care_28 : decode cX12_care 28 = .ok (.if_icmp .ge 54, 3) := by decide +kernel
theorem dX12_care_31 : decode cX12_care 31 = .ok (.aload_n 0, 1) := by decide +kernel
theorem dX12_care_32 : decode cX12_care 32 = .ok (.getfield 109, 3) := by decide +kernel
theorem dX12_care_35 : decode cX12_care 35 = .ok (.bipush 8, 2) := by decide +kernel
theorem dX12_care_37 : decode cX12_care 37 = .ok (.iload_n 1, 1) := by decide +kernel
theorem dX12_care_38 : decode cX12_care 38 = .ok (.imul, 1) := by decide +kernel
theorem dX12_care_39 : decode cX12_care 39 = .ok (.iload_n 2, 1) := by decide +kernel
theorem dX12_care_40 : decode cX12_care 40 = .ok (.iadd, 1) := by decide +kernel
theorem dX12_care_41 : decode cX12_care 41 = .ok (.iload_n 2, 1) := by decide +kernel
theorem dX12_care_42 : decode cX12_care 42 = .ok (.iload_n 1, 1) := by decide +kernel
theorem dX12_care_43 : decode cX12_care 43 = .ok (.if_icmp .eq 31, 3) := by decide +kernel
theorem dX12_care_46 : decode cX12_care 46 = .ok (.aload_n 0, 1) := by decide +kernel
theorem dX12_care_47 : decode cX12_care 47 = .ok (.getfield 67, 3) := by decide +kernel
theorem dX12_care_50 : decode cX12_care 50 = .ok (.iload_n 1, 1) := by decide +kernel
theorem dX12_care_51 : decode cX12_care 51 = .ok (.iaload, 1) := by decide +kernel
theorem dX12_care_52 : decode cX12_care 52 = .ok (.ifCond .le 22, 3) := by decide +kernel
theorem dX12_care_55 : decode cX12_care 55 = .ok (.aload_n 0, 1) := by decide +kernel
theorem dX12_care_56 : decode cX12_care 56 = .ok (.iload_n 2, 1) := by decide +kernel
theorem dX12_care_57 : decode cX12_care 57 = .ok (.iload_n 1, 1) := by decide +kernel
theorem dX12_care_58 : decode cX12_care 58 = .ok (.invokevirtual 430, 3) := by decide +kernel
theorem dX12_care_61 : decode cX12_care 61 = .ok (.aload_n 0, 1) := by decide +kernel
theorem dX12_care_62 : decode cX12_care 62 = .ok (.getfield 67, 3) := by decide +kernel
theorem dX12_care_65 : decode cX12_care 65 = .ok (.iload_n 1, 1) := by decide +kernel
theorem dX12_care_66 : decode cX12_care 66 = .ok (.iaload, 1) := by decide +kernel
theorem dX12_care_67 : decode cX12_care 67 = .ok (.if_icmp .lt 7, 3) := by decide +kernel
theorem dX12_care_70 : decode cX12_care 70 = .ok (.iconst 1, 1) := by decide +kernel
theorem dX12_care_71 : decode cX12_care 71 = .ok (.goto 4, 3) := by decide +kernel
theorem dX12_care_74 : decode cX12_care 74 = .ok (.iconst 0, 1) := by decide +kernel
theorem dX12_care_75 : decode cX12_care 75 = .ok (.bastore, 1) := by decide +kernel
theorem dX12_care_76 : decode cX12_care 76 = .ok (.iinc 2 1, 3) := by decide +kernel
theorem dX12_care_79 : decode cX12_care 79 = .ok (.goto (-56), 3) := by decide +kernel
theorem dX12_care_82 : decode cX12_care 82 = .ok (.iinc 1 1, 3) := by decide +kernel
theorem dX12_care_85 : decode cX12_care 85 = .ok (.goto (-79), 3) := by decide +kernel
theorem dX12_care_88 : decode cX12_care 88 = .ok (.aload_n 0, 1) := by decide +kernel
theorem dX12_care_89 : decode cX12_care 89 = .ok (.invokevirtual 436, 3) := by decide +kernel
theorem dX12_care_92 : decode cX12_care 92 = .ok (.aload_n 0, 1) := by decide +kernel
theorem dX12_care_93 : decode cX12_care 93 = .ok (.invokevirtual 439, 3) := by decide +kernel
theorem dX12_care_96 : decode cX12_care 96 = .ok (.aload_n 0, 1) := by decide +kernel
theorem dX12_care_97 : decode cX12_care 97 = .ok (.getfield 100, 3) := by decide +kernel
theorem dX12_care_100 : decode cX12_care 100 = .ok (.iconst 0, 1) := by decide +kernel
theorem dX12_care_101 : decode cX12_care 101 = .ok (.iaload, 1) := by decide +kernel
theorem dX12_care_102 : decode cX12_care 102 = .ok (.ireturn, 1) := by decide +kernel
theorem dX12_storeysFor_0 : decode cX12_storeysFor 0 = .ok (.iconst 1, 1) := by decide +kernel
theorem dX12_storeysFor_1 : decode cX12_storeysFor 1 = .ok (.istore_n 2, 1) := by decide +kernel
theorem dX12_storeysFor_2 : decode cX12_storeysFor 2 = .ok (.iload_n 2, 1) := by decide +kernel
theorem dX12_storeysFor_3 : decode cX12_storeysFor 3 = .ok (.aload_n 0, 1) := by decide +kernel
theorem dX12_storeysFor_4 : decode cX12_storeysFor 4 = .ok (.getfield 82, 3) := by decide +kernel
theorem dX12_storeysFor_7 : decode cX12_storeysFor 7 = .ok (.if_icmp .gt 22, 3) := by decide +kernel
theorem dX12_storeysFor_10 : decode cX12_storeysFor 10 = .ok (.aload_n 0, 1) := by decide +kernel
theorem dX12_storeysFor_11 : decode cX12_storeysFor 11 = .ok (.iload_n 2, 1) := by decide +kernel
theorem dX12_storeysFor_12 : decode cX12_storeysFor 12 = .ok (.iconst (-1), 1) := by decide +kernel
theorem dX12_storeysFor_13 : decode cX12_storeysFor 13 = .ok (.iconst 0, 1) := by decide +kernel
theorem dX12_storeysFor_14 : decode cX12_storeysFor 14 = .ok (.invokevirtual 404, 3) := by decide +kernel
theorem dX12_storeysFor_17 : decode cX12_storeysFor 17 = .ok (.iload_n 1, 1) := by decide +kernel
theorem dX12_storeysFor_18 : decode cX12_storeysFor 18 = .ok (.if_icmp .lt 5, 3) := by decide +kernel
theorem dX12_storeysFor_21 : decode cX12_storeysFor 21 = .ok (.iload_n 2, 1) := by decide +kernel
theorem dX12_storeysFor_22 : decode cX12_storeysFor 22 = .ok (.ireturn, 1) := by decide +kernel
theorem dX12_storeysFor_23 : decode cX12_storeysFor 23 = .ok (.iinc 2 1, 3) := by decide +kernel
theorem dX12_storeysFor_26 : decode cX12_storeysFor 26 = .ok (.goto (-24), 3) := by decide +kernel
theorem dX12_storeysFor_29 : decode cX12_storeysFor 29 = .ok (.iconst (-1), 1) := by decide +kernel
theorem dX12_storeysFor_30 : decode cX12_storeysFor 30 = .ok (.ireturn, 1) := by decide +kernel
theorem dX12_layProxy_0 : decode cX12_layProxy 0 = .ok (.aload_n 0, 1) := by decide +kernel
theorem dX12_layProxy_1 : decode cX12_layProxy 1 = .ok (.invokevirtual 394, 3) := by decide +kernel
theorem dX12_layProxy_4 : decode cX12_layProxy 4 = .ok (.iconst 0, 1) := by decide +kernel
theorem dX12_layProxy_5 : decode cX12_layProxy 5 = .ok (.istore_n 1, 1) := by decide +kernel
theorem dX12_layProxy_6 : decode cX12_layProxy 6 = .ok (.iload_n 1, 1) := by decide +kernel
theorem dX12_layProxy_7 : decode cX12_layProxy 7 = .ok (.aload_n 0, 1) := by decide +kernel
theorem dX12_layProxy_8 : decode cX12_layProxy 8 = .ok (.getfield 350, 3) := by decide +kernel
theorem dX12_layProxy_11 : decode cX12_layProxy 11 = .ok (.if_icmp .ge 97, 3) := by decide +kernel
theorem dX12_layProxy_14 : decode cX12_layProxy 14 = .ok (.aload_n 0, 1) := by decide +kernel
theorem dX12_layProxy_15 : decode cX12_layProxy 15 = .ok (.iload_n 1, 1) := by decide +kernel
theorem dX12_layProxy_16 : decode cX12_layProxy 16 = .ok (.invokevirtual 397, 3) := by decide +kernel
theorem dX12_layProxy_19 : decode cX12_layProxy 19 = .ok (.ifCond .le 15, 3) := by decide +kernel
theorem dX12_layProxy_22 : decode cX12_layProxy 22 = .ok (.aload_n 0, 1) := by decide +kernel
theorem dX12_layProxy_23 : decode cX12_layProxy 23 = .ok (.aload_n 0, 1) := by decide +kernel
theorem dX12_layProxy_24 : decode cX12_layProxy 24 = .ok (.iload_n 1, 1) := by decide +kernel
theorem dX12_layProxy_25 : decode cX12_layProxy 25 = .ok (.invokevirtual 397, 3) := by decide +kernel
theorem dX12_layProxy_28 : decode cX12_layProxy 28 = .ok (.invokevirtual 442, 3) := by decide +kernel
theorem dX12_layProxy_31 : decode cX12_layProxy 31 = .ok (.goto 4, 3) := by decide +kernel
theorem dX12_layProxy_34 : decode cX12_layProxy 34 = .ok (.iconst (-1), 1) := by decide +kernel
theorem dX12_layProxy_35 : decode cX12_layProxy 35 = .ok (.istore_n 2, 1) := by decide +kernel
theorem dX12_layProxy_36 : decode cX12_layProxy 36 = .ok (.aload_n 0, 1) := by decide +kernel
theorem dX12_layProxy_37 : decode cX12_layProxy 37 = .ok (.getfield 106, 3) := by decide +kernel
theorem dX12_layProxy_40 : decode cX12_layProxy 40 = .ok (.iload_n 1, 1) := by decide +kernel
theorem dX12_layProxy_41 : decode cX12_layProxy 41 = .ok (.iload_n 2, 1) := by decide +kernel
theorem dX12_layProxy_42 : decode cX12_layProxy 42 = .ok (.ifCond .ge 7, 3) := by decide +kernel
theorem dX12_layProxy_45 : decode cX12_layProxy 45 = .ok (.iconst 0, 1) := by decide +kernel
theorem dX12_layProxy_46 : decode cX12_layProxy 46 = .ok (.goto 4, 3) := by decide +kernel
theorem dX12_layProxy_49 : decode cX12_layProxy 49 = .ok (.iload_n 2, 1) := by decide +kernel
theorem dX12_layProxy_50 : decode cX12_layProxy 50 = .ok (.iastore, 1) := by decide +kernel
theorem dX12_layProxy_51 : decode cX12_layProxy 51 = .ok (.iconst 0, 1) := by decide +kernel
theorem dX12_layProxy_52 : decode cX12_layProxy 52 = .ok (.istore_n 3, 1) := by decide +kernel
theorem dX12_layProxy_53 : decode cX12_layProxy 53 = .ok (.iload_n 3, 1) := by decide +kernel
theorem dX12_layProxy_54 : decode cX12_layProxy 54 = .ok (.aload_n 0, 1) := by decide +kernel
theorem dX12_layProxy_55 : decode cX12_layProxy 55 = .ok (.getfield 350, 3) := by decide +kernel
theorem dX12_layProxy_58 : decode cX12_layProxy 58 = .ok (.if_icmp .ge 44, 3) := by decide +kernel
theorem dX12_layProxy_61 : decode cX12_layProxy 61 = .ok (.aload_n 0, 1) := by decide +kernel
theorem dX12_layProxy_62 : decode cX12_layProxy 62 = .ok (.getfield 109, 3) := by decide +kernel
theorem dX12_layProxy_65 : decode cX12_layProxy 65 = .ok (.bipush 8, 2) := by decide +kernel
theorem dX12_layProxy_67 : decode cX12_layProxy 67 = .ok (.iload_n 1, 1) := by decide +kernel
theorem dX12_layProxy_68 : decode cX12_layProxy 68 = .ok (.imul, 1) := by decide +kernel
theorem dX12_layProxy_69 : decode cX12_layProxy 69 = .ok (.iload_n 3, 1) := by decide +kernel
theorem dX12_layProxy_70 : decode cX12_layProxy 70 = .ok (.iadd, 1) := by decide +kernel
theorem dX12_layProxy_71 : decode cX12_layProxy 71 = .ok (.iload_n 3, 1) := by decide +kernel
theorem dX12_layProxy_72 : decode cX12_layProxy 72 = .ok (.iload_n 1, 1) := by decide +kernel
theorem dX12_layProxy_73 : decode cX12_layProxy 73 = .ok (.if_icmp .eq 21, 3) := by decide +kernel
theorem dX12_layProxy_76 : decode cX12_layProxy 76 = .ok (.iload_n 2, 1) := by decide +kernel
theorem dX12_layProxy_77 : decode cX12_layProxy 77 = .ok (.ifCond .lt 17, 3) := by decide +kernel
theorem dX12_layProxy_80 : decode cX12_layProxy 80 = .ok (.aload_n 0, 1) := by decide +kernel
theorem dX12_layProxy_81 : decode cX12_layProxy 81 = .ok (.getfield 88, 3) := by decide +kernel
theorem dX12_layProxy_84 : decode cX12_layProxy 84 = .ok (.iload_n 3, 1) := by decide +kernel
theorem dX12_layProxy_85 : decode cX12_layProxy 85 = .ok (.iaload, 1) := by decide +kernel
theorem dX12_layProxy_86 : decode cX12_layProxy 86 = .ok (.iload_n 2, 1) := by decide +kernel
theorem dX12_layProxy_87 : decode cX12_layProxy 87 = .ok (.if_icmp .lt 7, 3) := by decide +kernel
theorem dX12_layProxy_90 : decode cX12_layProxy 90 = .ok (.iconst 1, 1) := by decide +kernel
theorem dX12_layProxy_91 : decode cX12_layProxy 91 = .ok (.goto 4, 3) := by decide +kernel
theorem dX12_layProxy_94 : decode cX12_layProxy 94 = .ok (.iconst 0, 1) := by decide +kernel
theorem dX12_layProxy_95 : decode cX12_layProxy 95 = .ok (.bastore, 1) := by decide +kernel
theorem dX12_layProxy_96 : decode cX12_layProxy 96 = .ok (.iinc 3 1, 3) := by decide +kernel
theorem dX12_layProxy_99 : decode cX12_layProxy 99 = .ok (.goto (-46), 3) := by decide +kernel
theorem dX12_layProxy_102 : decode cX12_layProxy 102 = .ok (.iinc 1 1, 3) := by decide +kernel
theorem dX12_layProxy_105 : decode cX12_layProxy 105 = .ok (.goto (-99), 3) := by decide +kernel
theorem dX12_layProxy_108 : decode cX12_layProxy 108 = .ok (.aload_n 0, 1) := by decide +kernel
theorem dX12_layProxy_109 : decode cX12_layProxy 109 = .ok (.invokevirtual 436, 3) := by decide +kernel
theorem dX12_layProxy_112 : decode cX12_layProxy 112 = .ok (.return_, 1) := by decide +kernel
theorem dX12_proxy_0 : decode cX12_proxy 0 = .ok (.aload_n 0, 1) := by decide +kernel
theorem dX12_proxy_1 : decode cX12_proxy 1 = .ok (.invokevirtual 445, 3) := by decide +kernel
theorem dX12_proxy_4 : decode cX12_proxy 4 = .ok (.aload_n 0, 1) := by decide +kernel
theorem dX12_proxy_5 : decode cX12_proxy 5 = .ok (.invokevirtual 439, 3) := by decide +kernel
theorem dX12_proxy_8 : decode cX12_proxy 8 = .ok (.aload_n 0, 1) := by decide +kernel
theorem dX12_proxy_9 : decode cX12_proxy 9 = .ok (.getfield 100, 3) := by decide +kernel
theorem dX12_proxy_12 : decode cX12_proxy 12 = .ok (.iconst 0, 1) := by decide +kernel
theorem dX12_proxy_13 : decode cX12_proxy 13 = .ok (.iaload, 1) := by decide +kernel
theorem dX12_proxy_14 : decode cX12_proxy 14 = .ok (.ireturn, 1) := by decide +kernel
theorem dX12_toil_0 : decode cX12_toil 0 = .ok (.aload_n 0, 1) := by decide +kernel
theorem dX12_toil_1 : decode cX12_toil 1 = .ok (.invokevirtual 445, 3) := by decide +kernel
theorem dX12_toil_4 : decode cX12_toil 4 = .ok (.aload_n 0, 1) := by decide +kernel
theorem dX12_toil_5 : decode cX12_toil 5 = .ok (.getfield 103, 3) := by decide +kernel
theorem dX12_toil_8 : decode cX12_toil 8 = .ok (.iconst 0, 1) := by decide +kernel
theorem dX12_toil_9 : decode cX12_toil 9 = .ok (.iaload, 1) := by decide +kernel
theorem dX12_toil_10 : decode cX12_toil 10 = .ok (.ireturn, 1) := by decide +kernel
theorem dX12_giver_0 : decode cX12_giver 0 = .ok (.iconst 0, 1) := by decide +kernel
theorem dX12_giver_1 : decode cX12_giver 1 = .ok (.istore_n 1, 1) := by decide +kernel
theorem dX12_giver_2 : decode cX12_giver 2 = .ok (.iload_n 1, 1) := by decide +kernel
theorem dX12_giver_3 : decode cX12_giver 3 = .ok (.aload_n 0, 1) := by decide +kernel
theorem dX12_giver_4 : decode cX12_giver 4 = .ok (.getfield 350, 3) := by decide +kernel
theorem dX12_giver_7 : decode cX12_giver 7 = .ok (.if_icmp .ge 28, 3) := by decide +kernel
theorem dX12_giver_10 : decode cX12_giver 10 = .ok (.aload_n 0, 1) := by decide +kernel
theorem dX12_giver_11 : decode cX12_giver 11 = .ok (.getfield 88, 3) := by decide +kernel
theorem dX12_giver_14 : decode cX12_giver 14 = .ok (.bipush 8, 2) := by decide +kernel
theorem dX12_giver_16 : decode cX12_giver 16 = .ok (.iload_n 1, 1) := by decide +kernel
theorem dX12_giver_17 : decode cX12_giver 17 = .ok (.iadd, 1) := by decide +kernel
theorem dX12_giver_18 : decode cX12_giver 18 = .ok (.iaload, 1) := by decide +kernel
theorem dX12_giver_19 : decode cX12_giver 19 = .ok (.aload_n 0, 1) := by decide +kernel
theorem dX12_giver_20 : decode cX12_giver 20 = .ok (.iload_n 1, 1) := by decide +kernel
theorem dX12_giver_21 : decode cX12_giver 21 = .ok (.invokevirtual 372, 3) := by decide +kernel
theorem dX12_giver_24 : decode cX12_giver 24 = .ok (.if_icmp .le 5, 3) := by decide +kernel
theorem dX12_giver_27 : decode cX12_giver 27 = .ok (.iload_n 1, 1) := by decide +kernel
theorem dX12_giver_28 : decode cX12_giver 28 = .ok (.ireturn, 1) := by decide +kernel
theorem dX12_giver_29 : decode cX12_giver 29 = .ok (.iinc 1 1, 3) := by decide +kernel
theorem dX12_giver_32 : decode cX12_giver 32 = .ok (.goto (-30), 3) := by decide +kernel
theorem dX12_giver_35 : decode cX12_giver 35 = .ok (.iconst (-1), 1) := by decide +kernel
theorem dX12_giver_36 : decode cX12_giver 36 = .ok (.ireturn, 1) := by decide +kernel
theorem dX12_taker_0 : decode cX12_taker 0 = .ok (.iconst 0, 1) := by decide +kernel
theorem dX12_taker_1 : decode cX12_taker 1 = .ok (.istore_n 1, 1) := by decide +kernel
theorem dX12_taker_2 : decode cX12_taker 2 = .ok (.iload_n 1, 1) := by decide +kernel
theorem dX12_taker_3 : decode cX12_taker 3 = .ok (.aload_n 0, 1) := by decide +kernel
theorem dX12_taker_4 : decode cX12_taker 4 = .ok (.getfield 350, 3) := by decide +kernel
theorem dX12_taker_7 : decode cX12_taker 7 = .ok (.if_icmp .ge 34, 3) := by decide +kernel
theorem dX12_taker_10 : decode cX12_taker 10 = .ok (.aload_n 0, 1) := by decide +kernel
theorem dX12_taker_11 : decode cX12_taker 11 = .ok (.iload_n 1, 1) := by decide +kernel
theorem dX12_taker_12 : decode cX12_taker 12 = .ok (.invokevirtual 397, 3) := by decide +kernel
theorem dX12_taker_15 : decode cX12_taker 15 = .ok (.ifCond .le 20, 3) := by decide +kernel
theorem dX12_taker_18 : decode cX12_taker 18 = .ok (.aload_n 0, 1) := by decide +kernel
theorem dX12_taker_19 : decode cX12_taker 19 = .ok (.getfield 88, 3) := by decide +kernel
theorem dX12_taker_22 : decode cX12_taker 22 = .ok (.bipush 8, 2) := by decide +kernel
theorem dX12_taker_24 : decode cX12_taker 24 = .ok (.iload_n 1, 1) := by decide +kernel
theorem dX12_taker_25 : decode cX12_taker 25 = .ok (.iadd, 1) := by decide +kernel
theorem dX12_taker_26 : decode cX12_taker 26 = .ok (.iaload, 1) := by decide +kernel
theorem dX12_taker_27 : decode cX12_taker 27 = .ok (.sipush 9999, 3) := by decide +kernel
theorem dX12_taker_30 : decode cX12_taker 30 = .ok (.if_icmp .ge 5, 3) := by decide +kernel
theorem dX12_taker_33 : decode cX12_taker 33 = .ok (.iload_n 1, 1) := by decide +kernel
theorem dX12_taker_34 : decode cX12_taker 34 = .ok (.ireturn, 1) := by decide +kernel
theorem dX12_taker_35 : decode cX12_taker 35 = .ok (.iinc 1 1, 3) := by decide +kernel
theorem dX12_taker_38 : decode cX12_taker 38 = .ok (.goto (-36), 3) := by decide +kernel
theorem dX12_taker_41 : decode cX12_taker 41 = .ok (.iconst (-1), 1) := by decide +kernel
theorem dX12_taker_42 : decode cX12_taker 42 = .ok (.ireturn, 1) := by decide +kernel
theorem dX12_gifts_0 : decode cX12_gifts 0 = .ok (.iload_n 1, 1) := by decide +kernel
theorem dX12_gifts_1 : decode cX12_gifts 1 = .ok (.iconst 0, 1) := by decide +kernel
theorem dX12_gifts_2 : decode cX12_gifts 2 = .ok (.iconst 2, 1) := by decide +kernel
theorem dX12_gifts_3 : decode cX12_gifts 3 = .ok (.invokestatic 368, 3) := by decide +kernel
theorem dX12_gifts_6 : decode cX12_gifts 6 = .ok (.ifCond .ne 5, 3) := by decide +kernel
theorem dX12_gifts_9 : decode cX12_gifts 9 = .ok (.iconst (-1), 1) := by decide +kernel
theorem dX12_gifts_10 : decode cX12_gifts 10 = .ok (.ireturn, 1) := by decide +kernel
theorem dX12_gifts_11 : decode cX12_gifts 11 = .ok (.aload_n 0, 1) := by decide +kernel
theorem dX12_gifts_12 : decode cX12_gifts 12 = .ok (.invokevirtual 394, 3) := by decide +kernel
theorem dX12_gifts_15 : decode cX12_gifts 15 = .ok (.iconst 0, 1) := by decide +kernel
theorem dX12_gifts_16 : decode cX12_gifts 16 = .ok (.istore_n 2, 1) := by decide +kernel
theorem dX12_gifts_17 : decode cX12_gifts 17 = .ok (.iconst 0, 1) := by decide +kernel
theorem dX12_gifts_18 : decode cX12_gifts 18 = .ok (.istore_n 3, 1) := by decide +kernel
theorem dX12_gifts_19 : decode cX12_gifts 19 = .ok (.aload_n 0, 1) := by decide +kernel
theorem dX12_gifts_20 : decode cX12_gifts 20 = .ok (.invokevirtual 448, 3) := by decide +kernel
theorem dX12_gifts_23 : decode cX12_gifts 23 = .ok (.ifCond .lt 136, 3) := by decide +kernel
theorem dX12_gifts_26 : decode cX12_gifts 26 = .ok (.aload_n 0, 1) := by decide +kernel
theorem dX12_gifts_27 : decode cX12_gifts 27 = .ok (.invokevirtual 451, 3) := by decide +kernel
theorem dX12_gifts_30 : decode cX12_gifts 30 = .ok (.ifCond .lt 129, 3) := by decide +kernel
theorem dX12_gifts_33 : decode cX12_gifts 33 = .ok (.aload_n 0, 1) := by decide +kernel
theorem dX12_gifts_34 : decode cX12_gifts 34 = .ok (.invokevirtual 448, 3) := by decide +kernel
theorem dX12_gifts_37 : decode cX12_gifts 37 = .ok (.istore 4, 2) := by decide +kernel
theorem dX12_gifts_39 : decode cX12_gifts 39 = .ok (.aload_n 0, 1) := by decide +kernel
theorem dX12_gifts_40 : decode cX12_gifts 40 = .ok (.invokevirtual 451, 3) := by decide +kernel
theorem dX12_gifts_43 : decode cX12_gifts 43 = .ok (.istore 5, 2) := by decide +kernel
theorem dX12_gifts_45 : decode cX12_gifts 45 = .ok (.aload_n 0, 1) := by decide +kernel
theorem dX12_gifts_46 : decode cX12_gifts 46 = .ok (.getfield 88, 3) := by decide +kernel
theorem dX12_gifts_49 : decode cX12_gifts 49 = .ok (.bipush 8, 2) := by decide +kernel
theorem dX12_gifts_51 : decode cX12_gifts 51 = .ok (.iload 4, 2) := by decide +kernel
theorem dX12_gifts_53 : decode cX12_gifts 53 = .ok (.iadd, 1) := by decide +kernel
theorem dX12_gifts_54 : decode cX12_gifts 54 = .ok (.iaload, 1) := by decide +kernel
theorem dX12_gifts_55 : decode cX12_gifts 55 = .ok (.aload_n 0, 1) := by decide +kernel
theorem dX12_gifts_56 : decode cX12_gifts 56 = .ok (.iload 4, 2) := by decide +kernel
theorem dX12_gifts_58 : decode cX12_gifts 58 = .ok (.invokevirtual 372, 3) := by decide +kernel
theorem dX12_gifts_61 : decode cX12_gifts 61 = .ok (.isub, 1) := by decide +kernel
theorem dX12_gifts_62 : decode cX12_gifts 62 = .ok (.istore 6, 2) := by decide +kernel
theorem dX12_gifts_64 : decode cX12_gifts 64 = .ok (.aload_n 0, 1) := by decide +kernel
theorem dX12_gifts_65 : decode cX12_gifts 65 = .ok (.iload 5, 2) := by decide +kernel
theorem dX12_gifts_67 : decode cX12_gifts 67 = .ok (.invokevirtual 397, 3) := by decide +kernel
theorem dX12_gifts_70 : decode cX12_gifts 70 = .ok (.iload 6, 2) := by decide +kernel
theorem dX12_gifts_72 : decode cX12_gifts 72 = .ok (.if_icmp .ge 11, 3) := by decide +kernel
theorem dX12_gifts_75 : decode cX12_gifts 75 = .ok (.aload_n 0, 1) := by decide +kernel
theorem dX12_gifts_76 : decode cX12_gifts 76 = .ok (.iload 5, 2) := by decide +kernel
theorem dX12_gifts_78 : decode cX12_gifts 78 = .ok (.invokevirtual 397, 3) := by decide +kernel
theorem dX12_gifts_81 : decode cX12_gifts 81 = .ok (.istore 6, 2) := by decide +kernel
theorem dX12_gifts_83 : decode cX12_gifts 83 = .ok (.sipush 9999, 3) := by decide +kernel
theorem dX12_gifts_86 : decode cX12_gifts 86 = .ok (.aload_n 0, 1) := by decide +kernel
theorem dX12_gifts_87 : decode cX12_gifts 87 = .ok (.getfield 88, 3) := by decide +kernel
theorem dX12_gifts_90 : decode cX12_gifts 90 = .ok (.bipush 8, 2) := by decide +kernel
theorem dX12_gifts_92 : decode cX12_gifts 92 = .ok (.iload 5, 2) := by decide +kernel
theorem dX12_gifts_94 : decode cX12_gifts 94 = .ok (.iadd, 1) := by decide +kernel
theorem dX12_gifts_95 : decode cX12_gifts 95 = .ok (.iaload, 1) := by decide +kernel
theorem dX12_gifts_96 : decode cX12_gifts 96 = .ok (.isub, 1) := by decide +kernel
theorem dX12_gifts_97 : decode cX12_gifts 97 = .ok (.iload 6, 2) := by decide +kernel
theorem dX12_gifts_99 : decode cX12_gifts 99 = .ok (.if_icmp .ge 19, 3) := by decide +kernel
theorem dX12_gifts_102 : decode cX12_gifts 102 = .ok (.sipush 9999, 3) := by decide +kernel
theorem dX12_gifts_105 : decode cX12_gifts 105 = .ok (.aload_n 0, 1) := by decide +kernel
theorem dX12_gifts_106 : decode cX12_gifts 106 = .ok (.getfield 88, 3) := by decide +kernel
theorem dX12_gifts_109 : decode cX12_gifts 109 = .ok (.bipush 8, 2) := by decide +kernel
theorem dX12_gifts_111 : decode cX12_gifts 111 = .ok (.iload 5, 2) := by decide +kernel
theorem dX12_gifts_113 : decode cX12_gifts 113 = .ok (.iadd, 1) := by decide +kernel
theorem dX12_gifts_114 : decode cX12_gifts 114 = .ok (.iaload, 1) := by decide +kernel
theorem dX12_gifts_115 : decode cX12_gifts 115 = .ok (.isub, 1) := by decide +kernel
theorem dX12_gifts_116 : decode cX12_gifts 116 = .ok (.istore 6, 2) := by decide +kernel
theorem dX12_gifts_118 : decode cX12_gifts 118 = .ok (.aload_n 0, 1) := by decide +kernel
theorem dX12_gifts_119 : decode cX12_gifts 119 = .ok (.getfield 88, 3) := by decide +kernel
theorem dX12_gifts_122 : decode cX12_gifts 122 = .ok (.bipush 8, 2) := by decide +kernel
theorem dX12_gifts_124 : decode cX12_gifts 124 = .ok (.iload 4, 2) := by decide +kernel
theorem dX12_gifts_126 : decode cX12_gifts 126 = .ok (.iadd, 1) := by decide +kernel
theorem dX12_gifts_127 : decode cX12_gifts 127 = .ok (.dup2, 1) := by decide +kernel
theorem dX12_gifts_128 : decode cX12_gifts 128 = .ok (.iaload, 1) := by decide +kernel
theorem dX12_gifts_129 : decode cX12_gifts 129 = .ok (.iload 6, 2) := by decide +kernel
theorem dX12_gifts_131 : decode cX12_gifts 131 = .ok (.isub, 1) := by decide +kernel
theorem dX12_gifts_132 : decode cX12_gifts 132 = .ok (.iastore, 1) := by decide +kernel
theorem dX12_gifts_133 : decode cX12_gifts 133 = .ok (.aload_n 0, 1) := by decide +kernel
theorem dX12_gifts_134 : decode cX12_gifts 134 = .ok (.getfield 88, 3) := by decide +kernel
theorem dX12_gifts_137 : decode cX12_gifts 137 = .ok (.bipush 8, 2) := by decide +kernel
theorem dX12_gifts_139 : decode cX12_gifts 139 = .ok (.iload 5, 2) := by decide +kernel
theorem dX12_gifts_141 : decode cX12_gifts 141 = .ok (.iadd, 1) := by decide +kernel
theorem dX12_gifts_142 : decode cX12_gifts 142 = .ok (.dup2, 1) := by decide +kernel
theorem dX12_gifts_143 : decode cX12_gifts 143 = .ok (.iaload, 1) := by decide +kernel
theorem dX12_gifts_144 : decode cX12_gifts 144 = .ok (.iload 6, 2) := by decide +kernel
theorem dX12_gifts_146 : decode cX12_gifts 146 = .ok (.iadd, 1) := by decide +kernel
theorem dX12_gifts_147 : decode cX12_gifts 147 = .ok (.iastore, 1) := by decide +kernel
theorem dX12_gifts_148 : decode cX12_gifts 148 = .ok (.iinc 2 1, 3) := by decide +kernel
theorem dX12_gifts_151 : decode cX12_gifts 151 = .ok (.iload_n 3, 1) := by decide +kernel
theorem dX12_gifts_152 : decode cX12_gifts 152 = .ok (.iload 6, 2) := by decide +kernel
theorem dX12_gifts_154 : decode cX12_gifts 154 = .ok (.iadd, 1) := by decide +kernel
theorem dX12_gifts_155 : decode cX12_gifts 155 = .ok (.istore_n 3, 1) := by decide +kernel
theorem dX12_gifts_156 : decode cX12_gifts 156 = .ok (.goto (-137), 3) := by decide +kernel
theorem dX12_gifts_159 : decode cX12_gifts 159 = .ok (.iconst 0, 1) := by decide +kernel
theorem dX12_gifts_160 : decode cX12_gifts 160 = .ok (.istore 4, 2) := by decide +kernel
theorem dX12_gifts_162 : decode cX12_gifts 162 = .ok (.iconst 0, 1) := by decide +kernel
theorem dX12_gifts_163 : decode cX12_gifts 163 = .ok (.istore 5, 2) := by decide +kernel
theorem dX12_gifts_165 : decode cX12_gifts 165 = .ok (.iload 5, 2) := by decide +kernel
theorem dX12_gifts_167 : decode cX12_gifts 167 = .ok (.aload_n 0, 1) := by decide +kernel
theorem dX12_gifts_168 : decode cX12_gifts 168 = .ok (.getfield 350, 3) := by decide +kernel
theorem dX12_gifts_171 : decode cX12_gifts 171 = .ok (.if_icmp .ge 20, 3) := by decide +kernel
theorem dX12_gifts_174 : decode cX12_gifts 174 = .ok (.iload 4, 2) := by decide +kernel
theorem dX12_gifts_176 : decode cX12_gifts 176 = .ok (.aload_n 0, 1) := by decide +kernel
theorem dX12_gifts_177 : decode cX12_gifts 177 = .ok (.iload 5, 2) := by decide +kernel
theorem dX12_gifts_179 : decode cX12_gifts 179 = .ok (.invokevirtual 397, 3) := by decide +kernel
theorem dX12_gifts_182 : decode cX12_gifts 182 = .ok (.iadd, 1) := by decide +kernel
theorem dX12_gifts_183 : decode cX12_gifts 183 = .ok (.istore 4, 2) := by decide +kernel
theorem dX12_gifts_185 : decode cX12_gifts 185 = .ok (.iinc 5 1, 3) := by decide +kernel
theorem dX12_gifts_188 : decode cX12_gifts 188 = .ok (.goto (-23), 3) := by decide +kernel
theorem dX12_gifts_191 : decode cX12_gifts 191 = .ok (.iload_n 1, 1) := by decide +kernel
theorem dX12_gifts_192 : decode cX12_gifts 192 = .ok (.ifCond .ne 7, 3) := by decide +kernel
theorem dX12_gifts_195 : decode cX12_gifts 195 = .ok (.iload_n 2, 1) := by decide +kernel
theorem dX12_gifts_196 : decode cX12_gifts 196 = .ok (.goto 14, 3) := by decide +kernel
theorem dX12_gifts_199 : decode cX12_gifts 199 = .ok (.iload_n 1, 1) := by decide +kernel
theorem dX12_gifts_200 : decode cX12_gifts 200 = .ok (.iconst 1, 1) := by decide +kernel
theorem dX12_gifts_201 : decode cX12_gifts 201 = .ok (.if_icmp .ne 7, 3) := by decide +kernel
theorem dX12_gifts_204 : decode cX12_gifts 204 = .ok (.iload_n 3, 1) := by decide +kernel
theorem dX12_gifts_205 : decode cX12_gifts 205 = .ok (.goto 5, 3) := by decide +kernel
theorem dX12_gifts_208 : decode cX12_gifts 208 = .ok (.iload 4, 2) := by decide +kernel
theorem dX12_gifts_210 : decode cX12_gifts 210 = .ok (.ireturn, 1) := by decide +kernel
theorem dX12_layHomes_0 : decode cX12_layHomes 0 = .ok (.iconst 0, 1) := by decide +kernel
theorem dX12_layHomes_1 : decode cX12_layHomes 1 = .ok (.istore_n 1, 1) := by decide +kernel
theorem dX12_layHomes_2 : decode cX12_layHomes 2 = .ok (.iload_n 1, 1) := by decide +kernel
theorem dX12_layHomes_3 : decode cX12_layHomes 3 = .ok (.aload_n 0, 1) := by decide +kernel
theorem dX12_layHomes_4 : decode cX12_layHomes 4 = .ok (.getfield 350, 3) := by decide +kernel
theorem dX12_layHomes_7 : decode cX12_layHomes 7 = .ok (.if_icmp .ge 21, 3) := by decide +kernel
theorem dX12_layHomes_10 : decode cX12_layHomes 10 = .ok (.aload_n 0, 1) := by decide +kernel
theorem dX12_layHomes_11 : decode cX12_layHomes 11 = .ok (.getfield 112, 3) := by decide +kernel
theorem dX12_layHomes_14 : decode cX12_layHomes 14 = .ok (.iload_n 1, 1) := by decide +kernel
theorem dX12_layHomes_15 : decode cX12_layHomes 15 = .ok (.aload_n 0, 1) := by decide +kernel
theorem dX12_layHomes_16 : decode cX12_layHomes 16 = .ok (.getfield 67, 3) := by decide +kernel
theorem dX12_layHomes_19 : decode cX12_layHomes 19 = .ok (.iload_n 1, 1) := by decide +kernel
theorem dX12_layHomes_20 : decode cX12_layHomes 20 = .ok (.iaload, 1) := by decide +kernel
theorem dX12_layHomes_21 : decode cX12_layHomes 21 = .ok (.iastore, 1) := by decide +kernel
theorem dX12_layHomes_22 : decode cX12_layHomes 22 = .ok (.iinc 1 1, 3) := by decide +kernel
theorem dX12_layHomes_25 : decode cX12_layHomes 25 = .ok (.goto (-23), 3) := by decide +kernel
theorem dX12_layHomes_28 : decode cX12_layHomes 28 = .ok (.return_, 1) := by decide +kernel
theorem dX12_isEnvied_0 : decode cX12_isEnvied 0 = .ok (.aload_n 0, 1) := by decide +kernel
theorem dX12_isEnvied_1 : decode cX12_isEnvied 1 = .ok (.getfield 112, 3) := by decide +kernel
theorem dX12_isEnvied_4 : decode cX12_isEnvied 4 = .ok (.iload_n 2, 1) := by decide +kernel
theorem dX12_isEnvied_5 : decode cX12_isEnvied 5 = .ok (.iaload, 1) := by decide +kernel
theorem dX12_isEnvied_6 : decode cX12_isEnvied 6 = .ok (.aload_n 0, 1) := by decide +kernel
theorem dX12_isEnvied_7 : decode cX12_isEnvied 7 = .ok (.getfield 112, 3) := by decide +kernel
theorem dX12_isEnvied_10 : decode cX12_isEnvied 10 = .ok (.iload_n 1, 1) := by decide +kernel
theorem dX12_isEnvied_11 : decode cX12_isEnvied 11 = .ok (.iaload, 1) := by decide +kernel
theorem dX12_isEnvied_12 : decode cX12_isEnvied 12 = .ok (.if_icmp .gt 22, 3) := by decide +kernel
theorem dX12_isEnvied_15 : decode cX12_isEnvied 15 = .ok (.aload_n 0, 1) := by decide +kernel
theorem dX12_isEnvied_16 : decode cX12_isEnvied 16 = .ok (.getfield 76, 3) := by decide +kernel
theorem dX12_isEnvied_19 : decode cX12_isEnvied 19 = .ok (.iload_n 2, 1) := by decide +kernel
theorem dX12_isEnvied_20 : decode cX12_isEnvied 20 = .ok (.iaload, 1) := by decide +kernel
theorem dX12_isEnvied_21 : decode cX12_isEnvied 21 = .ok (.aload_n 0, 1) := by decide +kernel
theorem dX12_isEnvied_22 : decode cX12_isEnvied 22 = .ok (.getfield 76, 3) := by decide +kernel
theorem dX12_isEnvied_25 : decode cX12_isEnvied 25 = .ok (.iload_n 1, 1) := by decide +kernel
theorem dX12_isEnvied_26 : decode cX12_isEnvied 26 = .ok (.iaload, 1) := by decide +kernel
theorem dX12_isEnvied_27 : decode cX12_isEnvied 27 = .ok (.if_icmp .ge 7, 3) := by decide +kernel
theorem dX12_isEnvied_30 : decode cX12_isEnvied 30 = .ok (.iconst 1, 1) := by decide +kernel
theorem dX12_isEnvied_31 : decode cX12_isEnvied 31 = .ok (.goto 4, 3) := by decide +kernel
theorem dX12_isEnvied_34 : decode cX12_isEnvied 34 = .ok (.iconst 0, 1) := by decide +kernel
theorem dX12_isEnvied_35 : decode cX12_isEnvied 35 = .ok (.ireturn, 1) := by decide +kernel
theorem dX12_allEnvies_0 : decode cX12_allEnvies 0 = .ok (.iconst 0, 1) := by decide +kernel
theorem dX12_allEnvies_1 : decode cX12_allEnvies 1 = .ok (.istore_n 1, 1) := by decide +kernel
theorem dX12_allEnvies_2 : decode cX12_allEnvies 2 = .ok (.iconst 0, 1) := by decide +kernel
theorem dX12_allEnvies_3 : decode cX12_allEnvies 3 = .ok (.istore_n 2, 1) := by decide +kernel
theorem dX12_allEnvies_4 : decode cX12_allEnvies 4 = .ok (.iload_n 2, 1) := by decide +kernel
theorem dX12_allEnvies_5 : decode cX12_allEnvies 5 = .ok (.aload_n 0, 1) := by decide +kernel
theorem dX12_allEnvies_6 : decode cX12_allEnvies 6 = .ok (.getfield 350, 3) := by decide +kernel
theorem dX12_allEnvies_9 : decode cX12_allEnvies 9 = .ok (.if_icmp .ge 37, 3) := by decide +kernel
theorem dX12_allEnvies_12 : decode cX12_allEnvies 12 = .ok (.iconst 0, 1) := by decide +kernel
theorem dX12_allEnvies_13 : decode cX12_allEnvies 13 = .ok (.istore_n 3, 1) := by decide +kernel
theorem dX12_allEnvies_14 : decode cX12_allEnvies 14 = .ok (.iload_n 3, 1) := by decide +kernel
theorem dX12_allEnvies_15 : decode cX12_allEnvies 15 = .ok (.aload_n 0, 1) := by decide +kernel
theorem dX12_allEnvies_16 : decode cX12_allEnvies 16 = .ok (.getfield 350, 3) := by decide +kernel
theorem dX12_allEnvies_19 : decode cX12_allEnvies 19 = .ok (.if_icmp .ge 21, 3) := by decide +kernel
theorem dX12_allEnvies_22 : decode cX12_allEnvies 22 = .ok (.iload_n 1, 1) := by decide +kernel
theorem dX12_allEnvies_23 : decode cX12_allEnvies 23 = .ok (.aload_n 0, 1) := by decide +kernel
theorem dX12_allEnvies_24 : decode cX12_allEnvies 24 = .ok (.iload_n 2, 1) := by decide +kernel
theorem dX12_allEnvies_25 : decode cX12_allEnvies 25 = .ok (.iload_n 3, 1) := by decide +kernel
theorem dX12_allEnvies_26 : decode cX12_allEnvies 26 = .ok (.invokevirtual 454, 3) := by decide +kernel
theorem dX12_allEnvies_29 : decode cX12_allEnvies 29 = .ok (.invokestatic 304, 3) := by decide +kernel
theorem dX12_allEnvies_32 : decode cX12_allEnvies 32 = .ok (.iadd, 1) := by decide +kernel
theorem dX12_allEnvies_33 : decode cX12_allEnvies 33 = .ok (.istore_n 1, 1) := by decide +kernel
theorem dX12_allEnvies_34 : decode cX12_allEnvies 34 = .ok (.iinc 3 1, 3) := by decide +kernel
theorem dX12_allEnvies_37 : decode cX12_allEnvies 37 = .ok (.goto (-23), 3) := by decide +kernel
theorem dX12_allEnvies_40 : decode cX12_allEnvies 40 = .ok (.iinc 2 1, 3) := by decide +kernel
theorem dX12_allEnvies_43 : decode cX12_allEnvies 43 = .ok (.goto (-39), 3) := by decide +kernel
theorem dX12_allEnvies_46 : decode cX12_allEnvies 46 = .ok (.iload_n 1, 1) := by decide +kernel
theorem dX12_allEnvies_47 : decode cX12_allEnvies 47 = .ok (.ireturn, 1) := by decide +kernel
theorem dX12_envies_0 : decode cX12_envies 0 = .ok (.aload_n 0, 1) := by decide +kernel
theorem dX12_envies_1 : decode cX12_envies 1 = .ok (.iload_n 1, 1) := by decide +kernel
theorem dX12_envies_2 : decode cX12_envies 2 = .ok (.invokevirtual 382, 3) := by decide +kernel
theorem dX12_envies_5 : decode cX12_envies 5 = .ok (.ifCond .ne 5, 3) := by decide +kernel
theorem dX12_envies_8 : decode cX12_envies 8 = .ok (.iconst (-1), 1) := by decide +kernel
theorem dX12_envies_9 : decode cX12_envies 9 = .ok (.ireturn, 1) := by decide +kernel
theorem dX12_envies_10 : decode cX12_envies 10 = .ok (.aload_n 0, 1) := by decide +kernel
theorem dX12_envies_11 : decode cX12_envies 11 = .ok (.invokevirtual 458, 3) := by decide +kernel
theorem dX12_envies_14 : decode cX12_envies 14 = .ok (.iconst 0, 1) := by decide +kernel
theorem dX12_envies_15 : decode cX12_envies 15 = .ok (.istore_n 2, 1) := by decide +kernel
theorem dX12_envies_16 : decode cX12_envies 16 = .ok (.iconst 0, 1) := by decide +kernel
theorem dX12_envies_17 : decode cX12_envies 17 = .ok (.istore_n 3, 1) := by decide +kernel
theorem dX12_envies_18 : decode cX12_envies 18 = .ok (.iload_n 3, 1) := by decide +kernel
theorem dX12_envies_19 : decode cX12_envies 19 = .ok (.aload_n 0, 1) := by decide +kernel
theorem dX12_envies_20 : decode cX12_envies 20 = .ok (.getfield 350, 3) := by decide +kernel
theorem dX12_envies_23 : decode cX12_envies 23 = .ok (.if_icmp .ge 23, 3) := by decide +kernel
theorem dX12_envies_26 : decode cX12_envies 26 = .ok (.iload_n 2, 1) := by decide +kernel
theorem dX12_envies_27 : decode cX12_envies 27 = .ok (.aload_n 0, 1) := by decide +kernel
theorem dX12_envies_28 : decode cX12_envies 28 = .ok (.iload_n 1, 1) := by decide +kernel
theorem dX12_envies_29 : decode cX12_envies 29 = .ok (.iload_n 3, 1) := by decide +kernel
theorem dX12_envies_30 : decode cX12_envies 30 = .ok (.invokevirtual 454, 3) := by decide +kernel
theorem dX12_envies_33 : decode cX12_envies 33 = .ok (.invokestatic 304, 3) := by decide +kernel
theorem dX12_envies_36 : decode cX12_envies 36 = .ok (.iload_n 3, 1) := by decide +kernel
theorem dX12_envies_37 : decode cX12_envies 37 = .ok (.ishl, 1) := by decide +kernel
theorem dX12_envies_38 : decode cX12_envies 38 = .ok (.ior, 1) := by decide +kernel
theorem dX12_envies_39 : decode cX12_envies 39 = .ok (.istore_n 2, 1) := by decide +kernel
theorem dX12_envies_40 : decode cX12_envies 40 = .ok (.iinc 3 1, 3) := by decide +kernel
theorem dX12_envies_43 : decode cX12_envies 43 = .ok (.goto (-25), 3) := by decide +kernel
theorem dX12_envies_46 : decode cX12_envies 46 = .ok (.iload_n 2, 1) := by decide +kernel
theorem dX12_envies_47 : decode cX12_envies 47 = .ok (.ireturn, 1) := by decide +kernel
theorem dX12_quarrel_0 : decode cX12_quarrel 0 = .ok (.aload_n 0, 1) := by decide +kernel
theorem dX12_quarrel_1 : decode cX12_quarrel 1 = .ok (.invokevirtual 458, 3) := by decide +kernel
theorem dX12_quarrel_4 : decode cX12_quarrel 4 = .ok (.aload_n 0, 1) := by decide +kernel
theorem dX12_quarrel_5 : decode cX12_quarrel 5 = .ok (.invokevirtual 461, 3) := by decide +kernel
theorem dX12_quarrel_8 : decode cX12_quarrel 8 = .ok (.ireturn, 1) := by decide +kernel
theorem dX12_changeHomes_0 : decode cX12_changeHomes 0 = .ok (.aload_n 0, 1) := by decide +kernel
theorem dX12_changeHomes_1 : decode cX12_changeHomes 1 = .ok (.getfield 112, 3) := by decide +kernel
theorem dX12_changeHomes_4 : decode cX12_changeHomes 4 = .ok (.iload_n 1, 1) := by decide +kernel
theorem dX12_changeHomes_5 : decode cX12_changeHomes 5 = .ok (.iaload, 1) := by decide +kernel
theorem dX12_changeHomes_6 : decode cX12_changeHomes 6 = .ok (.istore_n 3, 1) := by decide +kernel
theorem dX12_changeHomes_7 : decode cX12_changeHomes 7 = .ok (.aload_n 0, 1) := by decide +kernel
theorem dX12_changeHomes_8 : decode cX12_changeHomes 8 = .ok (.getfield 112, 3) := by decide +kernel
theorem dX12_changeHomes_11 : decode cX12_changeHomes 11 = .ok (.iload_n 1, 1) := by decide +kernel
theorem dX12_changeHomes_12 : decode cX12_changeHomes 12 = .ok (.aload_n 0, 1) := by decide +kernel
theorem dX12_changeHomes_13 : decode cX12_changeHomes 13 = .ok (.getfield 112, 3) := by decide +kernel
theorem dX12_changeHomes_16 : decode cX12_changeHomes 16 = .ok (.iload_n 2, 1) := by decide +kernel
theorem dX12_changeHomes_17 : decode cX12_changeHomes 17 = .ok (.iaload, 1) := by decide +kernel
theorem dX12_changeHomes_18 : decode cX12_changeHomes 18 = .ok (.iastore, 1) := by decide +kernel
theorem dX12_changeHomes_19 : decode cX12_changeHomes 19 = .ok (.aload_n 0, 1) := by decide +kernel
theorem dX12_changeHomes_20 : decode cX12_changeHomes 20 = .ok (.getfield 112, 3) := by decide +kernel
theorem dX12_changeHomes_23 : decode cX12_changeHomes 23 = .ok (.iload_n 2, 1) := by decide +kernel
theorem dX12_changeHomes_24 : decode cX12_changeHomes 24 = .ok (.iload_n 3, 1) := by decide +kernel
theorem dX12_changeHomes_25 : decode cX12_changeHomes 25 = .ok (.iastore, 1) := by decide +kernel
theorem dX12_changeHomes_26 : decode cX12_changeHomes 26 = .ok (.return_, 1) := by decide +kernel
theorem dX12_calm_0 : decode cX12_calm 0 = .ok (.iload_n 1, 1) := by decide +kernel
theorem dX12_calm_1 : decode cX12_calm 1 = .ok (.iconst 0, 1) := by decide +kernel
theorem dX12_calm_2 : decode cX12_calm 2 = .ok (.iconst 2, 1) := by decide +kernel
theorem dX12_calm_3 : decode cX12_calm 3 = .ok (.invokestatic 368, 3) := by decide +kernel
theorem dX12_calm_6 : decode cX12_calm 6 = .ok (.ifCond .ne 5, 3) := by decide +kernel
theorem dX12_calm_9 : decode cX12_calm 9 = .ok (.iconst (-1), 1) := by decide +kernel
theorem dX12_calm_10 : decode cX12_calm 10 = .ok (.ireturn, 1) := by decide +kernel
theorem dX12_calm_11 : decode cX12_calm 11 = .ok (.aload_n 0, 1) := by decide +kernel
theorem dX12_calm_12 : decode cX12_calm 12 = .ok (.invokevirtual 458, 3) := by decide +kernel
theorem dX12_calm_15 : decode cX12_calm 15 = .ok (.aload_n 0, 1) := by decide +kernel
theorem dX12_calm_16 : decode cX12_calm 16 = .ok (.invokevirtual 461, 3) := by decide +kernel
theorem dX12_calm_19 : decode cX12_calm 19 = .ok (.istore_n 2, 1) := by decide +kernel
theorem dX12_calm_20 : decode cX12_calm 20 = .ok (.iconst (-1), 1) := by decide +kernel
theorem dX12_calm_21 : decode cX12_calm 21 = .ok (.istore_n 3, 1) := by decide +kernel
theorem dX12_calm_22 : decode cX12_calm 22 = .ok (.iconst 0, 1) := by decide +kernel
theorem dX12_calm_23 : decode cX12_calm 23 = .ok (.istore 4, 2) := by decide +kernel
theorem dX12_calm_25 : decode cX12_calm 25 = .ok (.iload 4, 2) := by decide +kernel
theorem dX12_calm_27 : decode cX12_calm 27 = .ok (.aload_n 0, 1) := by decide +kernel
theorem dX12_calm_28 : decode cX12_calm 28 = .ok (.getfield 350, 3) := by decide +kernel
theorem dX12_calm_31 : decode cX12_calm 31 = .ok (.if_icmp .ge 73, 3) := by decide +kernel
theorem dX12_calm_34 : decode cX12_calm 34 = .ok (.iload 4, 2) := by decide +kernel
theorem dX12_calm_36 : decode cX12_calm 36 = .ok (.iconst 1, 1) := by decide +kernel
theorem dX12_calm_37 : decode cX12_calm 37 = .ok (.iadd, 1) := by decide +kernel
theorem dX12_calm_38 : decode cX12_calm 38 = .ok (.istore 5, 2) := by decide +kernel
theorem dX12_calm_40 : decode cX12_calm 40 = .ok (.iload 5, 2) := by decide +kernel
theorem dX12_calm_42 : decode cX12_calm 42 = .ok (.aload_n 0, 1) := by decide +kernel
theorem dX12_calm_43 : decode cX12_calm 43 = .ok (.getfield 350, 3) := by decide +kernel
theorem dX12_calm_46 : decode cX12_calm 46 = .ok (.if_icmp .ge 52, 3) := by decide +kernel
theorem dX12_calm_49 : decode cX12_calm 49 = .ok (.aload_n 0, 1) := by decide +kernel
theorem dX12_calm_50 : decode cX12_calm 50 = .ok (.iload 4, 2) := by decide +kernel
theorem dX12_calm_52 : decode cX12_calm 52 = .ok (.iload 5, 2) := by decide +kernel
theorem dX12_calm_54 : decode cX12_calm 54 = .ok (.invokevirtual 464, 3) := by decide +kernel
theorem dX12_calm_57 : decode cX12_calm 57 = .ok (.aload_n 0, 1) := by decide +kernel
theorem dX12_calm_58 : decode cX12_calm 58 = .ok (.invokevirtual 461, 3) := by decide +kernel
theorem dX12_calm_61 : decode cX12_calm 61 = .ok (.istore 6, 2) := by decide +kernel
theorem dX12_calm_63 : decode cX12_calm 63 = .ok (.aload_n 0, 1) := by decide +kernel
theorem dX12_calm_64 : decode cX12_calm 64 = .ok (.iload 4, 2) := by decide +kernel
theorem dX12_calm_66 : decode cX12_calm 66 = .ok (.iload 5, 2) := by decide +kernel
theorem dX12_calm_68 : decode cX12_calm 68 = .ok (.invokevirtual 464, 3) := by decide +kernel
theorem dX12_calm_71 : decode cX12_calm 71 = .ok (.iload 6, 2) := by decide +kernel
theorem dX12_calm_73 : decode cX12_calm 73 = .ok (.iload_n 2, 1) := by decide +kernel
theorem dX12_calm_74 : decode cX12_calm 74 = .ok (.if_icmp .lt 6, 3) := by decide +kernel
theorem dX12_calm_77 : decode cX12_calm 77 = .ok (.goto 15, 3) := by decide +kernel
theorem dX12_calm_80 : decode cX12_calm 80 = .ok (.iload 6, 2) := by decide +kernel
theorem dX12_calm_82 : decode cX12_calm 82 = .ok (.istore_n 2, 1) := by decide +kernel
theorem dX12_calm_83 : decode cX12_calm 83 = .ok (.bipush 8, 2) := by decide +kernel
theorem dX12_calm_85 : decode cX12_calm 85 = .ok (.iload 4, 2) := by decide +kernel
theorem dX12_calm_87 : decode cX12_calm 87 = .ok (.imul, 1) := by decide +kernel
theorem dX12_calm_88 : decode cX12_calm 88 = .ok (.iload 5, 2) := by decide +kernel
theorem dX12_calm_90 : decode cX12_calm 90 = .ok (.iadd, 1) := by decide +kernel
theorem dX12_calm_91 : decode cX12_calm 91 = .ok (.istore_n 3, 1) := by decide +kernel
theorem dX12_calm_92 : decode cX12_calm 92 = .ok (.iinc 5 1, 3) := by decide +kernel
theorem dX12_calm_95 : decode cX12_calm 95 = .ok (.goto (-55), 3) := by decide +kernel
theorem dX12_calm_98 : decode cX12_calm 98 = .ok (.iinc 4 1, 3) := by decide +kernel
theorem dX12_calm_101 : decode cX12_calm 101 = .ok (.goto (-76), 3) := by decide +kernel
theorem dX12_calm_104 : decode cX12_calm 104 = .ok (.iload_n 3, 1) := by decide +kernel
theorem dX12_calm_105 : decode cX12_calm 105 = .ok (.ifCond .ge 7, 3) := by decide +kernel
theorem dX12_calm_108 : decode cX12_calm 108 = .ok (.iconst (-1), 1) := by decide +kernel
theorem dX12_calm_109 : decode cX12_calm 109 = .ok (.goto 27, 3) := by decide +kernel
theorem dX12_calm_112 : decode cX12_calm 112 = .ok (.iload_n 1, 1) := by decide +kernel
theorem dX12_calm_113 : decode cX12_calm 113 = .ok (.ifCond .ne 10, 3) := by decide +kernel
theorem dX12_calm_116 : decode cX12_calm 116 = .ok (.iload_n 3, 1) := by decide +kernel
theorem dX12_calm_117 : decode cX12_calm 117 = .ok (.bipush 8, 2) := by decide +kernel
theorem dX12_calm_119 : decode cX12_calm 119 = .ok (.idiv, 1) := by decide +kernel
theorem dX12_calm_120 : decode cX12_calm 120 = .ok (.goto 16, 3) := by decide +kernel
theorem dX12_calm_123 : decode cX12_calm 123 = .ok (.iload_n 1, 1) := by decide +kernel
theorem dX12_calm_124 : decode cX12_calm 124 = .ok (.iconst 1, 1) := by decide +kernel
theorem dX12_calm_125 : decode cX12_calm 125 = .ok (.if_icmp .ne 10, 3) := by decide +kernel
theorem dX12_calm_128 : decode cX12_calm 128 = .ok (.iload_n 3, 1) := by decide +kernel
theorem dX12_calm_129 : decode cX12_calm 129 = .ok (.bipush 8, 2) := by decide +kernel
theorem dX12_calm_131 : decode cX12_calm 131 = .ok (.irem, 1) := by decide +kernel
theorem dX12_calm_132 : decode cX12_calm 132 = .ok (.goto 4, 3) := by decide +kernel
theorem dX12_calm_135 : decode cX12_calm 135 = .ok (.iload_n 2, 1) := by decide +kernel
theorem dX12_calm_136 : decode cX12_calm 136 = .ok (.ireturn, 1) := by decide +kernel
theorem dX12_monthOf_0 : decode cX12_monthOf 0 = .ok (.bipush 30, 2) := by decide +kernel
theorem dX12_monthOf_2 : decode cX12_monthOf 2 = .ok (.aload_n 0, 1) := by decide +kernel
theorem dX12_monthOf_3 : decode cX12_monthOf 3 = .ok (.getfield 112, 3) := by decide +kernel
theorem dX12_monthOf_6 : decode cX12_monthOf 6 = .ok (.iload_n 1, 1) := by decide +kernel
theorem dX12_monthOf_7 : decode cX12_monthOf 7 = .ok (.iaload, 1) := by decide +kernel
theorem dX12_monthOf_8 : decode cX12_monthOf 8 = .ok (.imul, 1) := by decide +kernel
theorem dX12_monthOf_9 : decode cX12_monthOf 9 = .ok (.aload_n 0, 1) := by decide +kernel
theorem dX12_monthOf_10 : decode cX12_monthOf 10 = .ok (.getfield 76, 3) := by decide +kernel
theorem dX12_monthOf_13 : decode cX12_monthOf 13 = .ok (.iload_n 1, 1) := by decide +kernel
theorem dX12_monthOf_14 : decode cX12_monthOf 14 = .ok (.iaload, 1) := by decide +kernel
theorem dX12_monthOf_15 : decode cX12_monthOf 15 = .ok (.iadd, 1) := by decide +kernel
theorem dX12_monthOf_16 : decode cX12_monthOf 16 = .ok (.ireturn, 1) := by decide +kernel
theorem dX12_uneven_0 : decode cX12_uneven 0 = .ok (.ldc_w 423, 3) := by decide +kernel
theorem dX12_uneven_3 : decode cX12_uneven 3 = .ok (.istore_n 1, 1) := by decide +kernel
theorem dX12_uneven_4 : decode cX12_uneven 4 = .ok (.iconst 0, 1) := by decide +kernel
theorem dX12_uneven_5 : decode cX12_uneven 5 = .ok (.istore_n 2, 1) := by decide +kernel
theorem dX12_uneven_6 : decode cX12_uneven 6 = .ok (.iconst 0, 1) := by decide +kernel
theorem dX12_uneven_7 : decode cX12_uneven 7 = .ok (.istore_n 3, 1) := by decide +kernel
theorem dX12_uneven_8 : decode cX12_uneven 8 = .ok (.iload_n 3, 1) := by decide +kernel
theorem dX12_uneven_9 : decode cX12_uneven 9 = .ok (.aload_n 0, 1) := by decide +kernel
theorem dX12_uneven_10 : decode cX12_uneven 10 = .ok (.getfield 350, 3) := by decide +kernel
theorem dX12_uneven_13 : decode cX12_uneven 13 = .ok (.if_icmp .ge 47, 3) := by decide +kernel
theorem dX12_uneven_16 : decode cX12_uneven 16 = .ok (.aload_n 0, 1) := by decide +kernel
theorem dX12_uneven_17 : decode cX12_uneven 17 = .ok (.iload_n 3, 1) := by decide +kernel
theorem dX12_uneven_18 : decode cX12_uneven 18 = .ok (.invokevirtual 467, 3) := by decide +kernel
theorem dX12_uneven_21 : decode cX12_uneven 21 = .ok (.iload_n 1, 1) := by decide +kernel
theorem dX12_uneven_22 : decode cX12_uneven 22 = .ok (.if_icmp .ge 11, 3) := by decide +kernel
theorem dX12_uneven_25 : decode cX12_uneven 25 = .ok (.aload_n 0, 1) := by decide +kernel
theorem dX12_uneven_26 : decode cX12_uneven 26 = .ok (.iload_n 3, 1) := by decide +kernel
theorem dX12_uneven_27 : decode cX12_uneven 27 = .ok (.invokevirtual 467, 3) := by decide +kernel
theorem dX12_uneven_30 : decode cX12_uneven 30 = .ok (.goto 4, 3) := by decide +kernel
theorem dX12_uneven_33 : decode cX12_uneven 33 = .ok (.iload_n 1, 1) := by decide +kernel
theorem dX12_uneven_34 : decode cX12_uneven 34 = .ok (.istore_n 1, 1) := by decide +kernel
theorem dX12_uneven_35 : decode cX12_uneven 35 = .ok (.aload_n 0, 1) := by decide +kernel
theorem dX12_uneven_36 : decode cX12_uneven 36 = .ok (.iload_n 3, 1) := by decide +kernel
theorem dX12_uneven_37 : decode cX12_uneven 37 = .ok (.invokevirtual 467, 3) := by decide +kernel
theorem dX12_uneven_40 : decode cX12_uneven 40 = .ok (.iload_n 2, 1) := by decide +kernel
theorem dX12_uneven_41 : decode cX12_uneven 41 = .ok (.if_icmp .le 11, 3) := by decide +kernel
theorem dX12_uneven_44 : decode cX12_uneven 44 = .ok (.aload_n 0, 1) := by decide +kernel
theorem dX12_uneven_45 : decode cX12_uneven 45 = .ok (.iload_n 3, 1) := by decide +kernel
theorem dX12_uneven_46 : decode cX12_uneven 46 = .ok (.invokevirtual 467, 3) := by decide +kernel
theorem dX12_uneven_49 : decode cX12_uneven 49 = .ok (.goto 4, 3) := by decide +kernel
theorem dX12_uneven_52 : decode cX12_uneven 52 = .ok (.iload_n 2, 1) := by decide +kernel
theorem dX12_uneven_53 : decode cX12_uneven 53 = .ok (.istore_n 2, 1) := by decide +kernel
theorem dX12_uneven_54 : decode cX12_uneven 54 = .ok (.iinc 3 1, 3) := by decide +kernel
theorem dX12_uneven_57 : decode cX12_uneven 57 = .ok (.goto (-49), 3) := by decide +kernel
theorem dX12_uneven_60 : decode cX12_uneven 60 = .ok (.iload_n 2, 1) := by decide +kernel
theorem dX12_uneven_61 : decode cX12_uneven 61 = .ok (.iload_n 1, 1) := by decide +kernel
theorem dX12_uneven_62 : decode cX12_uneven 62 = .ok (.isub, 1) := by decide +kernel
theorem dX12_uneven_63 : decode cX12_uneven 63 = .ok (.ireturn, 1) := by decide +kernel
theorem dX12_nextHomes_0 : decode cX12_nextHomes 0 = .ok (.aload_n 0, 1) := by decide +kernel
theorem dX12_nextHomes_1 : decode cX12_nextHomes 1 = .ok (.getfield 350, 3) := by decide +kernel
theorem dX12_nextHomes_4 : decode cX12_nextHomes 4 = .ok (.iconst 2, 1) := by decide +kernel
theorem dX12_nextHomes_5 : decode cX12_nextHomes 5 = .ok (.isub, 1) := by decide +kernel
theorem dX12_nextHomes_6 : decode cX12_nextHomes 6 = .ok (.istore_n 1, 1) := by decide +kernel
theorem dX12_nextHomes_7 : decode cX12_nextHomes 7 = .ok (.iload_n 1, 1) := by decide +kernel
theorem dX12_nextHomes_8 : decode cX12_nextHomes 8 = .ok (.ifCond .lt 26, 3) := by decide +kernel
theorem dX12_nextHomes_11 : decode cX12_nextHomes 11 = .ok (.aload_n 0, 1) := by decide +kernel
theorem dX12_nextHomes_12 : decode cX12_nextHomes 12 = .ok (.getfield 112, 3) := by decide +kernel
theorem dX12_nextHomes_15 : decode cX12_nextHomes 15 = .ok (.iload_n 1, 1) := by decide +kernel
theorem dX12_nextHomes_16 : decode cX12_nextHomes 16 = .ok (.iaload, 1) := by decide +kernel
theorem dX12_nextHomes_17 : decode cX12_nextHomes 17 = .ok (.aload_n 0, 1) := by decide +kernel
theorem dX12_nextHomes_18 : decode cX12_nextHomes 18 = .ok (.getfield 112, 3) := by decide +kernel
theorem dX12_nextHomes_21 : decode cX12_nextHomes 21 = .ok (.iload_n 1, 1) := by decide +kernel
theorem dX12_nextHomes_22 : decode cX12_nextHomes 22 = .ok (.iconst 1, 1) := by decide +kernel
theorem dX12_nextHomes_23 : decode cX12_nextHomes 23 = .ok (.iadd, 1) := by decide +kernel
theorem dX12_nextHomes_24 : decode cX12_nextHomes 24 = .ok (.iaload, 1) := by decide +kernel
theorem dX12_nextHomes_25 : decode cX12_nextHomes 25 = .ok (.if_icmp .lt 9, 3) := by decide +kernel
theorem dX12_nextHomes_28 : decode cX12_nextHomes 28 = .ok (.iinc 1 (-1), 3) := by decide +kernel
theorem dX12_nextHomes_31 : decode cX12_nextHomes 31 = .ok (.goto (-24), 3) := by decide +kernel
theorem dX12_nextHomes_34 : decode cX12_nextHomes 34 = .ok (.iload_n 1, 1) := by decide +kernel
theorem dX12_nextHomes_35 : decode cX12_nextHomes 35 = .ok (.ifCond .ge 5, 3) := by decide +kernel
theorem dX12_nextHomes_38 : decode cX12_nextHomes 38 = .ok (.iconst 0, 1) := by decide +kernel
theorem dX12_nextHomes_39 : decode cX12_nextHomes 39 = .ok (.ireturn, 1) := by decide +kernel
theorem dX12_nextHomes_40 : decode cX12_nextHomes 40 = .ok (.aload_n 0, 1) := by decide +kernel
theorem dX12_nextHomes_41 : decode cX12_nextHomes 41 = .ok (.getfield 350, 3) := by decide +kernel
theorem dX12_nextHomes_44 : decode cX12_nextHomes 44 = .ok (.iconst 1, 1) := by decide +kernel
theorem dX12_nextHomes_45 : decode cX12_nextHomes 45 = .ok (.isub, 1) := by decide +kernel
theorem dX12_nextHomes_46 : decode cX12_nextHomes 46 = .ok (.istore_n 2, 1) := by decide +kernel
theorem dX12_nextHomes_47 : decode cX12_nextHomes 47 = .ok (.aload_n 0, 1) := by decide +kernel
theorem dX12_nextHomes_48 : decode cX12_nextHomes 48 = .ok (.getfield 112, 3) := by decide +kernel
theorem dX12_nextHomes_51 : decode cX12_nextHomes 51 = .ok (.iload_n 2, 1) := by decide +kernel
theorem dX12_nextHomes_52 : decode cX12_nextHomes 52 = .ok (.iaload, 1) := by decide +kernel
theorem dX12_nextHomes_53 : decode cX12_nextHomes 53 = .ok (.aload_n 0, 1) := by decide +kernel
theorem dX12_nextHomes_54 : decode cX12_nextHomes 54 = .ok (.getfield 112, 3) := by decide +kernel
theorem dX12_nextHomes_57 : decode cX12_nextHomes 57 = .ok (.iload_n 1, 1) := by decide +kernel
theorem dX12_nextHomes_58 : decode cX12_nextHomes 58 = .ok (.iaload, 1) := by decide +kernel
theorem dX12_nextHomes_59 : decode cX12_nextHomes 59 = .ok (.if_icmp .gt 9, 3) := by decide +kernel
theorem dX12_nextHomes_62 : decode cX12_nextHomes 62 = .ok (.iinc 2 (-1), 3) := by decide +kernel
theorem dX12_nextHomes_65 : decode cX12_nextHomes 65 = .ok (.goto (-18), 3) := by decide +kernel
theorem dX12_nextHomes_68 : decode cX12_nextHomes 68 = .ok (.aload_n 0, 1) := by decide +kernel
theorem dX12_nextHomes_69 : decode cX12_nextHomes 69 = .ok (.iload_n 1, 1) := by decide +kernel
theorem dX12_nextHomes_70 : decode cX12_nextHomes 70 = .ok (.iload_n 2, 1) := by decide +kernel
theorem dX12_nextHomes_71 : decode cX12_nextHomes 71 = .ok (.invokevirtual 464, 3) := by decide +kernel
theorem dX12_nextHomes_74 : decode cX12_nextHomes 74 = .ok (.iload_n 1, 1) := by decide +kernel
theorem dX12_nextHomes_75 : decode cX12_nextHomes 75 = .ok (.iconst 1, 1) := by decide +kernel
theorem dX12_nextHomes_76 : decode cX12_nextHomes 76 = .ok (.iadd, 1) := by decide +kernel
theorem dX12_nextHomes_77 : decode cX12_nextHomes 77 = .ok (.istore_n 3, 1) := by decide +kernel
theorem dX12_nextHomes_78 : decode cX12_nextHomes 78 = .ok (.aload_n 0, 1) := by decide +kernel
theorem dX12_nextHomes_79 : decode cX12_nextHomes 79 = .ok (.getfield 350, 3) := by decide +kernel
theorem dX12_nextHomes_82 : decode cX12_nextHomes 82 = .ok (.iconst 1, 1) := by decide +kernel
theorem dX12_nextHomes_83 : decode cX12_nextHomes 83 = .ok (.isub, 1) := by decide +kernel
theorem dX12_nextHomes_84 : decode cX12_nextHomes 84 = .ok (.istore 4, 2) := by decide +kernel
theorem dX12_nextHomes_86 : decode cX12_nextHomes 86 = .ok (.iload_n 3, 1) := by decide +kernel
theorem dX12_nextHomes_87 : decode cX12_nextHomes 87 = .ok (.iload 4, 2) := by decide +kernel
theorem dX12_nextHomes_89 : decode cX12_nextHomes 89 = .ok (.if_icmp .ge 19, 3) := by decide +kernel
theorem dX12_nextHomes_92 : decode cX12_nextHomes 92 = .ok (.aload_n 0, 1) := by decide +kernel
theorem dX12_nextHomes_93 : decode cX12_nextHomes 93 = .ok (.iload_n 3, 1) := by decide +kernel
theorem dX12_nextHomes_94 : decode cX12_nextHomes 94 = .ok (.iload 4, 2) := by decide +kernel
theorem dX12_nextHomes_96 : decode cX12_nextHomes 96 = .ok (.invokevirtual 464, 3) := by decide +kernel
theorem dX12_nextHomes_99 : decode cX12_nextHomes 99 = .ok (.iinc 4 (-1), 3) := by decide +kernel
theorem dX12_nextHomes_102 : decode cX12_nextHomes 102 = .ok (.iinc 3 1, 3) := by decide +kernel
theorem dX12_nextHomes_105 : decode cX12_nextHomes 105 = .ok (.goto (-19), 3) := by decide +kernel
theorem dX12_nextHomes_108 : decode cX12_nextHomes 108 = .ok (.iconst 1, 1) := by decide +kernel
theorem dX12_nextHomes_109 : decode cX12_nextHomes 109 = .ok (.ireturn, 1) := by decide +kernel
theorem dX12_let_0 : decode cX12_let 0 = .ok (.aload_n 0, 1) := by decide +kernel
theorem dX12_let_1 : decode cX12_let 1 = .ok (.iconst 0, 1) := by decide +kernel
theorem dX12_let_2 : decode cX12_let 2 = .ok (.putfield 365, 3) := by decide +kernel
theorem dX12_let_5 : decode cX12_let 5 = .ok (.aload_n 0, 1) := by decide +kernel
theorem dX12_let_6 : decode cX12_let 6 = .ok (.getfield 350, 3) := by decide +kernel
theorem dX12_let_9 : decode cX12_let 9 = .ok (.ifCond .ne 5, 3) := by decide +kernel
theorem dX12_let_12 : decode cX12_let 12 = .ok (.iconst (-1), 1) := by decide +kernel
theorem dX12_let_13 : decode cX12_let 13 = .ok (.ireturn, 1) := by decide +kernel
theorem dX12_let_14 : decode cX12_let 14 = .ok (.aload_n 0, 1) := by decide +kernel
theorem dX12_let_15 : decode cX12_let 15 = .ok (.invokevirtual 458, 3) := by decide +kernel
theorem dX12_let_18 : decode cX12_let 18 = .ok (.iconst 0, 1) := by decide +kernel
theorem dX12_let_19 : decode cX12_let 19 = .ok (.istore_n 1, 1) := by decide +kernel
theorem dX12_let_20 : decode cX12_let 20 = .ok (.iload_n 1, 1) := by decide +kernel
theorem dX12_let_21 : decode cX12_let 21 = .ok (.aload_n 0, 1) := by decide +kernel
theorem dX12_let_22 : decode cX12_let 22 = .ok (.getfield 350, 3) := by decide +kernel
theorem dX12_let_25 : decode cX12_let 25 = .ok (.if_icmp .ge 48, 3) := by decide +kernel
theorem dX12_let_28 : decode cX12_let 28 = .ok (.iload_n 1, 1) := by decide +kernel
theorem dX12_let_29 : decode cX12_let 29 = .ok (.iconst 1, 1) := by decide +kernel
theorem dX12_let_30 : decode cX12_let 30 = .ok (.iadd, 1) := by decide +kernel
theorem dX12_let_31 : decode cX12_let 31 = .ok (.istore_n 2, 1) := by decide +kernel
theorem dX12_let_32 : decode cX12_let 32 = .ok (.iload_n 2, 1) := by decide +kernel
theorem dX12_let_33 : decode cX12_let 33 = .ok (.aload_n 0, 1) := by decide +kernel
theorem dX12_let_34 : decode cX12_let 34 = .ok (.getfield 350, 3) := by decide +kernel
theorem dX12_let_37 : decode cX12_let 37 = .ok (.if_icmp .ge 30, 3) := by decide +kernel
theorem dX12_let_40 : decode cX12_let 40 = .ok (.aload_n 0, 1) := by decide +kernel
theorem dX12_let_41 : decode cX12_let 41 = .ok (.getfield 112, 3) := by decide +kernel
theorem dX12_let_44 : decode cX12_let 44 = .ok (.iload_n 2, 1) := by decide +kernel
theorem dX12_let_45 : decode cX12_let 45 = .ok (.iaload, 1) := by decide +kernel
theorem dX12_let_46 : decode cX12_let 46 = .ok (.aload_n 0, 1) := by decide +kernel
theorem dX12_let_47 : decode cX12_let 47 = .ok (.getfield 112, 3) := by decide +kernel
theorem dX12_let_50 : decode cX12_let 50 = .ok (.iload_n 1, 1) := by decide +kernel
theorem dX12_let_51 : decode cX12_let 51 = .ok (.iaload, 1) := by decide +kernel
theorem dX12_let_52 : decode cX12_let 52 = .ok (.if_icmp .ge 9, 3) := by decide +kernel
theorem dX12_let_55 : decode cX12_let 55 = .ok (.aload_n 0, 1) := by decide +kernel
theorem dX12_let_56 : decode cX12_let 56 = .ok (.iload_n 1, 1) := by decide +kernel
theorem dX12_let_57 : decode cX12_let 57 = .ok (.iload_n 2, 1) := by decide +kernel
theorem dX12_let_58 : decode cX12_let 58 = .ok (.invokevirtual 464, 3) := by decide +kernel
theorem dX12_let_61 : decode cX12_let 61 = .ok (.iinc 2 1, 3) := by decide +kernel
theorem dX12_let_64 : decode cX12_let 64 = .ok (.goto (-32), 3) := by decide +kernel
theorem dX12_let_67 : decode cX12_let 67 = .ok (.iinc 1 1, 3) := by decide +kernel
theorem dX12_let_70 : decode cX12_let 70 = .ok (.goto (-50), 3) := by decide +kernel
theorem dX12_let_73 : decode cX12_let 73 = .ok (.ldc_w 423, 3) := by decide +kernel
theorem dX12_let_76 : decode cX12_let 76 = .ok (.istore_n 1, 1) := by decide +kernel
theorem dX12_let_77 : decode cX12_let 77 = .ok (.iconst 1, 1) := by decide +kernel
theorem dX12_let_78 : decode cX12_let 78 = .ok (.istore_n 2, 1) := by decide +kernel
theorem dX12_let_79 : decode cX12_let 79 = .ok (.iload_n 2, 1) := by decide +kernel
theorem dX12_let_80 : decode cX12_let 80 = .ok (.ifCond .eq 55, 3) := by decide +kernel
theorem dX12_let_83 : decode cX12_let 83 = .ok (.aload_n 0, 1) := by decide +kernel
theorem dX12_let_84 : decode cX12_let 84 = .ok (.invokevirtual 470, 3) := by decide +kernel
theorem dX12_let_87 : decode cX12_let 87 = .ok (.istore_n 3, 1) := by decide +kernel
theorem dX12_let_88 : decode cX12_let 88 = .ok (.iload_n 3, 1) := by decide +kernel
theorem dX12_let_89 : decode cX12_let 89 = .ok (.iload_n 1, 1) := by decide +kernel
theorem dX12_let_90 : decode cX12_let 90 = .ok (.if_icmp .ge 37, 3) := by decide +kernel
theorem dX12_let_93 : decode cX12_let 93 = .ok (.iload_n 3, 1) := by decide +kernel
theorem dX12_let_94 : decode cX12_let 94 = .ok (.istore_n 1, 1) := by decide +kernel
theorem dX12_let_95 : decode cX12_let 95 = .ok (.iconst 0, 1) := by decide +kernel
theorem dX12_let_96 : decode cX12_let 96 = .ok (.istore 4, 2) := by decide +kernel
theorem dX12_let_98 : decode cX12_let 98 = .ok (.iload 4, 2) := by decide +kernel
theorem dX12_let_100 : decode cX12_let 100 = .ok (.aload_n 0, 1) := by decide +kernel
theorem dX12_let_101 : decode cX12_let 101 = .ok (.getfield 350, 3) := by decide +kernel
theorem dX12_let_104 : decode cX12_let 104 = .ok (.if_icmp .ge 23, 3) := by decide +kernel
theorem dX12_let_107 : decode cX12_let 107 = .ok (.aload_n 0, 1) := by decide +kernel
theorem dX12_let_108 : decode cX12_let 108 = .ok (.getfield 97, 3) := by decide +kernel
theorem dX12_let_111 : decode cX12_let 111 = .ok (.iload 4, 2) := by decide +kernel
theorem dX12_let_113 : decode cX12_let 113 = .ok (.aload_n 0, 1) := by decide +kernel
theorem dX12_let_114 : decode cX12_let 114 = .ok (.getfield 112, 3) := by decide +kernel
theorem dX12_let_117 : decode cX12_let 117 = .ok (.iload 4, 2) := by decide +kernel
theorem dX12_let_119 : decode cX12_let 119 = .ok (.iaload, 1) := by decide +kernel
theorem dX12_let_120 : decode cX12_let 120 = .ok (.iastore, 1) := by decide +kernel
theorem dX12_let_121 : decode cX12_let 121 = .ok (.iinc 4 1, 3) := by decide +kernel
theorem dX12_let_124 : decode cX12_let 124 = .ok (.goto (-26), 3) := by decide +kernel
theorem dX12_let_127 : decode cX12_let 127 = .ok (.aload_n 0, 1) := by decide +kernel
theorem dX12_let_128 : decode cX12_let 128 = .ok (.invokevirtual 473, 3) := by decide +kernel
theorem dX12_let_131 : decode cX12_let 131 = .ok (.istore_n 2, 1) := by decide +kernel
theorem dX12_let_132 : decode cX12_let 132 = .ok (.goto (-53), 3) := by decide +kernel
theorem dX12_let_135 : decode cX12_let 135 = .ok (.aload_n 0, 1) := by decide +kernel
theorem dX12_let_136 : decode cX12_let 136 = .ok (.aload_n 0, 1) := by decide +kernel
theorem dX12_let_137 : decode cX12_let 137 = .ok (.getfield 350, 3) := by decide +kernel
theorem dX12_let_140 : decode cX12_let 140 = .ok (.putfield 365, 3) := by decide +kernel
theorem dX12_let_143 : decode cX12_let 143 = .ok (.iload_n 1, 1) := by decide +kernel
theorem dX12_let_144 : decode cX12_let 144 = .ok (.ireturn, 1) := by decide +kernel
theorem dX12_month_0 : decode cX12_month 0 = .ok (.aload_n 0, 1) := by decide +kernel
theorem dX12_month_1 : decode cX12_month 1 = .ok (.iload_n 1, 1) := by decide +kernel
theorem dX12_month_2 : decode cX12_month 2 = .ok (.invokevirtual 382, 3) := by decide +kernel
theorem dX12_month_5 : decode cX12_month 5 = .ok (.ifCond .ne 5, 3) := by decide +kernel
theorem dX12_month_8 : decode cX12_month 8 = .ok (.iconst (-1), 1) := by decide +kernel
theorem dX12_month_9 : decode cX12_month 9 = .ok (.ireturn, 1) := by decide +kernel
theorem dX12_month_10 : decode cX12_month 10 = .ok (.aload_n 0, 1) := by decide +kernel
theorem dX12_month_11 : decode cX12_month 11 = .ok (.invokevirtual 458, 3) := by decide +kernel
theorem dX12_month_14 : decode cX12_month 14 = .ok (.aload_n 0, 1) := by decide +kernel
theorem dX12_month_15 : decode cX12_month 15 = .ok (.iload_n 1, 1) := by decide +kernel
theorem dX12_month_16 : decode cX12_month 16 = .ok (.invokevirtual 467, 3) := by decide +kernel
theorem dX12_month_19 : decode cX12_month 19 = .ok (.ireturn, 1) := by decide +kernel
theorem dX12_spread_0 : decode cX12_spread 0 = .ok (.aload_n 0, 1) := by decide +kernel
theorem dX12_spread_1 : decode cX12_spread 1 = .ok (.getfield 350, 3) := by decide +kernel
theorem dX12_spread_4 : decode cX12_spread 4 = .ok (.ifCond .ne 5, 3) := by decide +kernel
theorem dX12_spread_7 : decode cX12_spread 7 = .ok (.iconst (-1), 1) := by decide +kernel
theorem dX12_spread_8 : decode cX12_spread 8 = .ok (.ireturn, 1) := by decide +kernel
theorem dX12_spread_9 : decode cX12_spread 9 = .ok (.aload_n 0, 1) := by decide +kernel
theorem dX12_spread_10 : decode cX12_spread 10 = .ok (.invokevirtual 458, 3) := by decide +kernel
theorem dX12_spread_13 : decode cX12_spread 13 = .ok (.aload_n 0, 1) := by decide +kernel
theorem dX12_spread_14 : decode cX12_spread 14 = .ok (.invokevirtual 470, 3) := by decide +kernel
theorem dX12_spread_17 : decode cX12_spread 17 = .ok (.ireturn, 1) := by decide +kernel
theorem dX12_live_0 : decode cX12_live 0 = .ok (.iload_n 1, 1) := by decide +kernel
theorem dX12_live_1 : decode cX12_live 1 = .ok (.iconst 0, 1) := by decide +kernel
theorem dX12_live_2 : decode cX12_live 2 = .ok (.aload_n 0, 1) := by decide +kernel
theorem dX12_live_3 : decode cX12_live 3 = .ok (.getfield 82, 3) := by decide +kernel
theorem dX12_live_6 : decode cX12_live 6 = .ok (.invokestatic 368, 3) := by decide +kernel
theorem dX12_live_9 : decode cX12_live 9 = .ok (.ifCond .ne 5, 3) := by decide +kernel
theorem dX12_live_12 : decode cX12_live 12 = .ok (.iconst (-1), 1) := by decide +kernel
theorem dX12_live_13 : decode cX12_live 13 = .ok (.ireturn, 1) := by decide +kernel
theorem dX12_live_14 : decode cX12_live 14 = .ok (.iconst 0, 1) := by decide +kernel
theorem dX12_live_15 : decode cX12_live 15 = .ok (.istore_n 2, 1) := by decide +kernel
theorem dX12_live_16 : decode cX12_live 16 = .ok (.iconst 0, 1) := by decide +kernel
theorem dX12_live_17 : decode cX12_live 17 = .ok (.istore_n 3, 1) := by decide +kernel
theorem dX12_live_18 : decode cX12_live 18 = .ok (.iload_n 3, 1) := by decide +kernel
theorem dX12_live_19 : decode cX12_live 19 = .ok (.aload_n 0, 1) := by decide +kernel
theorem dX12_live_20 : decode cX12_live 20 = .ok (.getfield 350, 3) := by decide +kernel
theorem dX12_live_23 : decode cX12_live 23 = .ok (.if_icmp .ge 32, 3) := by decide +kernel
theorem dX12_live_26 : decode cX12_live 26 = .ok (.iload_n 2, 1) := by decide +kernel
theorem dX12_live_27 : decode cX12_live 27 = .ok (.aload_n 0, 1) := by decide +kernel
theorem dX12_live_28 : decode cX12_live 28 = .ok (.getfield 67, 3) := by decide +kernel
theorem dX12_live_31 : decode cX12_live 31 = .ok (.iload_n 3, 1) := by decide +kernel
theorem dX12_live_32 : decode cX12_live 32 = .ok (.iaload, 1) := by decide +kernel
theorem dX12_live_33 : decode cX12_live 33 = .ok (.iload_n 1, 1) := by decide +kernel
theorem dX12_live_34 : decode cX12_live 34 = .ok (.if_icmp .ne 7, 3) := by decide +kernel
theorem dX12_live_37 : decode cX12_live 37 = .ok (.iconst 1, 1) := by decide +kernel
theorem dX12_live_38 : decode cX12_live 38 = .ok (.goto 4, 3) := by decide +kernel
theorem dX12_live_41 : decode cX12_live 41 = .ok (.iconst 0, 1) := by decide +kernel
theorem dX12_live_42 : decode cX12_live 42 = .ok (.invokestatic 304, 3) := by decide +kernel
theorem dX12_live_45 : decode cX12_live 45 = .ok (.iload_n 3, 1) := by decide +kernel
theorem dX12_live_46 : decode cX12_live 46 = .ok (.ishl, 1) := by decide +kernel
theorem dX12_live_47 : decode cX12_live 47 = .ok (.ior, 1) := by decide +kernel
theorem dX12_live_48 : decode cX12_live 48 = .ok (.istore_n 2, 1) := by decide +kernel
theorem dX12_live_49 : decode cX12_live 49 = .ok (.iinc 3 1, 3) := by decide +kernel
theorem dX12_live_52 : decode cX12_live 52 = .ok (.goto (-34), 3) := by decide +kernel
theorem dX12_live_55 : decode cX12_live 55 = .ok (.iload_n 2, 1) := by decide +kernel
theorem dX12_live_56 : decode cX12_live 56 = .ok (.ireturn, 1) := by decide +kernel
theorem dX12_goFar_0 : decode cX12_goFar 0 = .ok (.aload_n 0, 1) := by decide +kernel
theorem dX12_goFar_1 : decode cX12_goFar 1 = .ok (.invokevirtual 394, 3) := by decide +kernel
theorem dX12_goFar_4 : decode cX12_goFar 4 = .ok (.iconst 0, 1) := by decide +kernel
theorem dX12_goFar_5 : decode cX12_goFar 5 = .ok (.istore_n 2, 1) := by decide +kernel
theorem dX12_goFar_6 : decode cX12_goFar 6 = .ok (.iload_n 2, 1) := by decide +kernel
theorem dX12_goFar_7 : decode cX12_goFar 7 = .ok (.iload_n 1, 1) := by decide +kernel
theorem dX12_goFar_8 : decode cX12_goFar 8 = .ok (.if_icmp .ge 13, 3) := by decide +kernel
theorem dX12_goFar_11 : decode cX12_goFar 11 = .ok (.aload_n 0, 1) := by decide +kernel
theorem dX12_goFar_12 : decode cX12_goFar 12 = .ok (.invokevirtual 417, 3) := by decide +kernel
theorem dX12_goFar_15 : decode cX12_goFar 15 = .ok (.iinc 2 1, 3) := by decide +kernel
theorem dX12_goFar_18 : decode cX12_goFar 18 = .ok (.goto (-12), 3) := by decide +kernel
theorem dX12_goFar_21 : decode cX12_goFar 21 = .ok (.return_, 1) := by decide +kernel
theorem dX12_rest_0 : decode cX12_rest 0 = .ok (.aload_n 0, 1) := by decide +kernel
theorem dX12_rest_1 : decode cX12_rest 1 = .ok (.invokevirtual 394, 3) := by decide +kernel
theorem dX12_rest_4 : decode cX12_rest 4 = .ok (.iconst 0, 1) := by decide +kernel
theorem dX12_rest_5 : decode cX12_rest 5 = .ok (.istore_n 1, 1) := by decide +kernel
theorem dX12_rest_6 : decode cX12_rest 6 = .ok (.iload_n 1, 1) := by decide +kernel
theorem dX12_rest_7 : decode cX12_rest 7 = .ok (.bipush 60, 2) := by decide +kernel
theorem dX12_rest_9 : decode cX12_rest 9 = .ok (.if_icmp .gt 34, 3) := by decide +kernel
theorem dX12_rest_12 : decode cX12_rest 12 = .ok (.aload_n 0, 1) := by decide +kernel
theorem dX12_rest_13 : decode cX12_rest 13 = .ok (.getfield 88, 3) := by decide +kernel
theorem dX12_rest_16 : decode cX12_rest 16 = .ok (.bipush 25, 2) := by decide +kernel
theorem dX12_rest_18 : decode cX12_rest 18 = .ok (.iaload, 1) := by decide +kernel
theorem dX12_rest_19 : decode cX12_rest 19 = .ok (.istore_n 2, 1) := by decide +kernel
theorem dX12_rest_20 : decode cX12_rest 20 = .ok (.aload_n 0, 1) := by decide +kernel
theorem dX12_rest_21 : decode cX12_rest 21 = .ok (.invokevirtual 417, 3) := by decide +kernel
theorem dX12_rest_24 : decode cX12_rest 24 = .ok (.aload_n 0, 1) := by decide +kernel
theorem dX12_rest_25 : decode cX12_rest 25 = .ok (.getfield 88, 3) := by decide +kernel
theorem dX12_rest_28 : decode cX12_rest 28 = .ok (.bipush 25, 2) := by decide +kernel
theorem dX12_rest_30 : decode cX12_rest 30 = .ok (.iaload, 1) := by decide +kernel
theorem dX12_rest_31 : decode cX12_rest 31 = .ok (.iload_n 2, 1) := by decide +kernel
theorem dX12_rest_32 : decode cX12_rest 32 = .ok (.if_icmp .ne 5, 3) := by decide +kernel
theorem dX12_rest_35 : decode cX12_rest 35 = .ok (.iload_n 1, 1) := by decide +kernel
theorem dX12_rest_36 : decode cX12_rest 36 = .ok (.ireturn, 1) := by decide +kernel
theorem dX12_rest_37 : decode cX12_rest 37 = .ok (.iinc 1 1, 3) := by decide +kernel
theorem dX12_rest_40 : decode cX12_rest 40 = .ok (.goto (-34), 3) := by decide +kernel
theorem dX12_rest_43 : decode cX12_rest 43 = .ok (.iconst (-1), 1) := by decide +kernel
theorem dX12_rest_44 : decode cX12_rest 44 = .ok (.ireturn, 1) := by decide +kernel
theorem dX12_will_0 : decode cX12_will 0 = .ok (.iload_n 1, 1) := by decide +kernel
theorem dX12_will_1 : decode cX12_will 1 = .ok (.iconst 0, 1) := by decide +kernel
theorem dX12_will_2 : decode cX12_will 2 = .ok (.bipush 60, 2) := by decide +kernel
theorem dX12_will_4 : decode cX12_will 4 = .ok (.invokestatic 368, 3) := by decide +kernel
theorem dX12_will_7 : decode cX12_will 7 = .ok (.ifCond .ne 5, 3) := by decide +kernel
theorem dX12_will_10 : decode cX12_will 10 = .ok (.iconst (-1), 1) := by decide +kernel
theorem dX12_will_11 : decode cX12_will 11 = .ok (.ireturn, 1) := by decide +kernel
theorem dX12_will_12 : decode cX12_will 12 = .ok (.aload_n 0, 1) := by decide +kernel
theorem dX12_will_13 : decode cX12_will 13 = .ok (.iload_n 1, 1) := by decide +kernel
theorem dX12_will_14 : decode cX12_will 14 = .ok (.invokevirtual 476, 3) := by decide +kernel
theorem dX12_will_17 : decode cX12_will 17 = .ok (.aload_n 0, 1) := by decide +kernel
theorem dX12_will_18 : decode cX12_will 18 = .ok (.getfield 88, 3) := by decide +kernel
theorem dX12_will_21 : decode cX12_will 21 = .ok (.bipush 25, 2) := by decide +kernel
theorem dX12_will_23 : decode cX12_will 23 = .ok (.iaload, 1) := by decide +kernel
theorem dX12_will_24 : decode cX12_will 24 = .ok (.ireturn, 1) := by decide +kernel
theorem dX12_pull_0 : decode cX12_pull 0 = .ok (.aload_n 0, 1) := by decide +kernel
theorem dX12_pull_1 : decode cX12_pull 1 = .ok (.invokevirtual 394, 3) := by decide +kernel
theorem dX12_pull_4 : decode cX12_pull 4 = .ok (.aload_n 0, 1) := by decide +kernel
theorem dX12_pull_5 : decode cX12_pull 5 = .ok (.invokevirtual 391, 3) := by decide +kernel
theorem dX12_pull_8 : decode cX12_pull 8 = .ok (.ireturn, 1) := by decide +kernel
theorem dX12_lever_0 : decode cX12_lever 0 = .ok (.iconst 0, 1) := by decide +kernel
theorem dX12_lever_1 : decode cX12_lever 1 = .ok (.istore_n 1, 1) := by decide +kernel
theorem dX12_lever_2 : decode cX12_lever 2 = .ok (.iload_n 1, 1) := by decide +kernel
theorem dX12_lever_3 : decode cX12_lever 3 = .ok (.bipush 99, 2) := by decide +kernel
theorem dX12_lever_5 : decode cX12_lever 5 = .ok (.if_icmp .gt 47, 3) := by decide +kernel
theorem dX12_lever_8 : decode cX12_lever 8 = .ok (.aload_n 0, 1) := by decide +kernel
theorem dX12_lever_9 : decode cX12_lever 9 = .ok (.invokevirtual 394, 3) := by decide +kernel
theorem dX12_lever_12 : decode cX12_lever 12 = .ok (.aload_n 0, 1) := by decide +kernel
theorem dX12_lever_13 : decode cX12_lever 13 = .ok (.getfield 88, 3) := by decide +kernel
theorem dX12_lever_16 : decode cX12_lever 16 = .ok (.bipush 24, 2) := by decide +kernel
theorem dX12_lever_18 : decode cX12_lever 18 = .ok (.dup2, 1) := by decide +kernel
theorem dX12_lever_19 : decode cX12_lever 19 = .ok (.iaload, 1) := by decide +kernel
theorem dX12_lever_20 : decode cX12_lever 20 = .ok (.iload_n 1, 1) := by decide +kernel
theorem dX12_lever_21 : decode cX12_lever 21 = .ok (.iadd, 1) := by decide +kernel
theorem dX12_lever_22 : decode cX12_lever 22 = .ok (.iastore, 1) := by decide +kernel
theorem dX12_lever_23 : decode cX12_lever 23 = .ok (.aload_n 0, 1) := by decide +kernel
theorem dX12_lever_24 : decode cX12_lever 24 = .ok (.invokevirtual 417, 3) := by decide +kernel
theorem dX12_lever_27 : decode cX12_lever 27 = .ok (.aload_n 0, 1) := by decide +kernel
theorem dX12_lever_28 : decode cX12_lever 28 = .ok (.getfield 88, 3) := by decide +kernel
theorem dX12_lever_31 : decode cX12_lever 31 = .ok (.bipush 25, 2) := by decide +kernel
theorem dX12_lever_33 : decode cX12_lever 33 = .ok (.iaload, 1) := by decide +kernel
theorem dX12_lever_34 : decode cX12_lever 34 = .ok (.aload_n 0, 1) := by decide +kernel
theorem dX12_lever_35 : decode cX12_lever 35 = .ok (.getfield 85, 3) := by decide +kernel
theorem dX12_lever_38 : decode cX12_lever 38 = .ok (.bipush 25, 2) := by decide +kernel
theorem dX12_lever_40 : decode cX12_lever 40 = .ok (.iaload, 1) := by decide +kernel
theorem dX12_lever_41 : decode cX12_lever 41 = .ok (.if_icmp .le 5, 3) := by decide +kernel
theorem dX12_lever_44 : decode cX12_lever 44 = .ok (.iload_n 1, 1) := by decide +kernel
theorem dX12_lever_45 : decode cX12_lever 45 = .ok (.ireturn, 1) := by decide +kernel
theorem dX12_lever_46 : decode cX12_lever 46 = .ok (.iinc 1 1, 3) := by decide +kernel
theorem dX12_lever_49 : decode cX12_lever 49 = .ok (.goto (-47), 3) := by decide +kernel
theorem dX12_lever_52 : decode cX12_lever 52 = .ok (.iconst (-1), 1) := by decide +kernel
theorem dX12_lever_53 : decode cX12_lever 53 = .ok (.ireturn, 1) := by decide +kernel
theorem dX12_hover_0 : decode cX12_hover 0 = .ok (.iload_n 1, 1) := by decide +kernel
theorem dX12_hover_1 : decode cX12_hover 1 = .ok (.iconst 0, 1) := by decide +kernel
theorem dX12_hover_2 : decode cX12_hover 2 = .ok (.sipush 999, 3) := by decide +kernel
theorem dX12_hover_5 : decode cX12_hover 5 = .ok (.invokestatic 368, 3) := by decide +kernel
theorem dX12_hover_8 : decode cX12_hover 8 = .ok (.ifCond .ne 5, 3) := by decide +kernel
theorem dX12_hover_11 : decode cX12_hover 11 = .ok (.iconst (-1), 1) := by decide +kernel
theorem dX12_hover_12 : decode cX12_hover 12 = .ok (.ireturn, 1) := by decide +kernel
theorem dX12_hover_13 : decode cX12_hover 13 = .ok (.aload_n 0, 1) := by decide +kernel
theorem dX12_hover_14 : decode cX12_hover 14 = .ok (.invokevirtual 394, 3) := by decide +kernel
theorem dX12_hover_17 : decode cX12_hover 17 = .ok (.iconst 0, 1) := by decide +kernel
theorem dX12_hover_18 : decode cX12_hover 18 = .ok (.istore_n 2, 1) := by decide +kernel
theorem dX12_hover_19 : decode cX12_hover 19 = .ok (.iload_n 2, 1) := by decide +kernel
theorem dX12_hover_20 : decode cX12_hover 20 = .ok (.bipush 60, 2) := by decide +kernel
theorem dX12_hover_22 : decode cX12_hover 22 = .ok (.if_icmp .ge 21, 3) := by decide +kernel
theorem dX12_hover_25 : decode cX12_hover 25 = .ok (.aload_n 0, 1) := by decide +kernel
theorem dX12_hover_26 : decode cX12_hover 26 = .ok (.getfield 88, 3) := by decide +kernel
theorem dX12_hover_29 : decode cX12_hover 29 = .ok (.bipush 24, 2) := by decide +kernel
theorem dX12_hover_31 : decode cX12_hover 31 = .ok (.iload_n 1, 1) := by decide +kernel
theorem dX12_hover_32 : decode cX12_hover 32 = .ok (.iastore, 1) := by decide +kernel
theorem dX12_hover_33 : decode cX12_hover 33 = .ok (.aload_n 0, 1) := by decide +kernel
theorem dX12_hover_34 : decode cX12_hover 34 = .ok (.invokevirtual 417, 3) := by decide +kernel
theorem dX12_hover_37 : decode cX12_hover 37 = .ok (.iinc 2 1, 3) := by decide +kernel
theorem dX12_hover_40 : decode cX12_hover 40 = .ok (.goto (-21), 3) := by decide +kernel
theorem dX12_hover_43 : decode cX12_hover 43 = .ok (.aload_n 0, 1) := by decide +kernel
theorem dX12_hover_44 : decode cX12_hover 44 = .ok (.getfield 88, 3) := by decide +kernel
theorem dX12_hover_47 : decode cX12_hover 47 = .ok (.bipush 25, 2) := by decide +kernel
theorem dX12_hover_49 : decode cX12_hover 49 = .ok (.iaload, 1) := by decide +kernel
theorem dX12_hover_50 : decode cX12_hover 50 = .ok (.ireturn, 1) := by decide +kernel
theorem dX12_ruin_0 : decode cX12_ruin 0 = .ok (.iload_n 1, 1) := by decide +kernel
theorem dX12_ruin_1 : decode cX12_ruin 1 = .ok (.iconst 0, 1) := by decide +kernel
theorem dX12_ruin_2 : decode cX12_ruin 2 = .ok (.bipush 60, 2) := by decide +kernel
theorem dX12_ruin_4 : decode cX12_ruin 4 = .ok (.invokestatic 368, 3) := by decide +kernel
theorem dX12_ruin_7 : decode cX12_ruin 7 = .ok (.ifCond .ne 5, 3) := by decide +kernel
theorem dX12_ruin_10 : decode cX12_ruin 10 = .ok (.iconst (-1), 1) := by decide +kernel
theorem dX12_ruin_11 : decode cX12_ruin 11 = .ok (.ireturn, 1) := by decide +kernel
theorem dX12_ruin_12 : decode cX12_ruin 12 = .ok (.aload_n 0, 1) := by decide +kernel
theorem dX12_ruin_13 : decode cX12_ruin 13 = .ok (.iload_n 1, 1) := by decide +kernel
theorem dX12_ruin_14 : decode cX12_ruin 14 = .ok (.invokevirtual 476, 3) := by decide +kernel
theorem dX12_ruin_17 : decode cX12_ruin 17 = .ok (.iconst 0, 1) := by decide +kernel
theorem dX12_ruin_18 : decode cX12_ruin 18 = .ok (.istore_n 2, 1) := by decide +kernel
theorem dX12_ruin_19 : decode cX12_ruin 19 = .ok (.iconst 0, 1) := by decide +kernel
theorem dX12_ruin_20 : decode cX12_ruin 20 = .ok (.istore_n 3, 1) := by decide +kernel
theorem dX12_ruin_21 : decode cX12_ruin 21 = .ok (.iload_n 3, 1) := by decide +kernel
theorem dX12_ruin_22 : decode cX12_ruin 22 = .ok (.aload_n 0, 1) := by decide +kernel
theorem dX12_ruin_23 : decode cX12_ruin 23 = .ok (.getfield 350, 3) := by decide +kernel
theorem dX12_ruin_26 : decode cX12_ruin 26 = .ok (.if_icmp .ge 21, 3) := by decide +kernel
theorem dX12_ruin_29 : decode cX12_ruin 29 = .ok (.iload_n 2, 1) := by decide +kernel
theorem dX12_ruin_30 : decode cX12_ruin 30 = .ok (.aload_n 0, 1) := by decide +kernel
theorem dX12_ruin_31 : decode cX12_ruin 31 = .ok (.getfield 88, 3) := by decide +kernel
theorem dX12_ruin_34 : decode cX12_ruin 34 = .ok (.bipush 16, 2) := by decide +kernel
theorem dX12_ruin_36 : decode cX12_ruin 36 = .ok (.iload_n 3, 1) := by decide +kernel
theorem dX12_ruin_37 : decode cX12_ruin 37 = .ok (.iadd, 1) := by decide +kernel
theorem dX12_ruin_38 : decode cX12_ruin 38 = .ok (.iaload, 1) := by decide +kernel
theorem dX12_ruin_39 : decode cX12_ruin 39 = .ok (.iadd, 1) := by decide +kernel
theorem dX12_ruin_40 : decode cX12_ruin 40 = .ok (.istore_n 2, 1) := by decide +kernel
theorem dX12_ruin_41 : decode cX12_ruin 41 = .ok (.iinc 3 1, 3) := by decide +kernel
theorem dX12_ruin_44 : decode cX12_ruin 44 = .ok (.goto (-23), 3) := by decide +kernel
theorem dX12_ruin_47 : decode cX12_ruin 47 = .ok (.iload_n 2, 1) := by decide +kernel
theorem dX12_ruin_48 : decode cX12_ruin 48 = .ok (.ireturn, 1) := by decide +kernel
theorem dX12_settle_0 : decode cX12_settle 0 = .ok (.aload_n 0, 1) := by decide +kernel
theorem dX12_settle_1 : decode cX12_settle 1 = .ok (.iload_n 1, 1) := by decide +kernel
theorem dX12_settle_2 : decode cX12_settle 2 = .ok (.invokevirtual 382, 3) := by decide +kernel
theorem dX12_settle_5 : decode cX12_settle 5 = .ok (.ifCond .eq 15, 3) := by decide +kernel
theorem dX12_settle_8 : decode cX12_settle 8 = .ok (.iload_n 2, 1) := by decide +kernel
theorem dX12_settle_9 : decode cX12_settle 9 = .ok (.iconst 1, 1) := by decide +kernel
theorem dX12_settle_10 : decode cX12_settle 10 = .ok (.aload_n 0, 1) := by decide +kernel
theorem dX12_settle_11 : decode cX12_settle 11 = .ok (.getfield 82, 3) := by decide +kernel
theorem dX12_settle_14 : decode cX12_settle 14 = .ok (.invokestatic 368, 3) := by decide +kernel
theorem dX12_settle_17 : decode cX12_settle 17 = .ok (.ifCond .ne 5, 3) := by decide +kernel
theorem dX12_settle_20 : decode cX12_settle 20 = .ok (.iconst (-1), 1) := by decide +kernel
theorem dX12_settle_21 : decode cX12_settle 21 = .ok (.ireturn, 1) := by decide +kernel
theorem dX12_settle_22 : decode cX12_settle 22 = .ok (.aload_n 0, 1) := by decide +kernel
theorem dX12_settle_23 : decode cX12_settle 23 = .ok (.invokevirtual 394, 3) := by decide +kernel
theorem dX12_settle_26 : decode cX12_settle 26 = .ok (.iconst 0, 1) := by decide +kernel
theorem dX12_settle_27 : decode cX12_settle 27 = .ok (.istore_n 3, 1) := by decide +kernel
theorem dX12_settle_28 : decode cX12_settle 28 = .ok (.iload_n 3, 1) := by decide +kernel
theorem dX12_settle_29 : decode cX12_settle 29 = .ok (.bipush 60, 2) := by decide +kernel
theorem dX12_settle_31 : decode cX12_settle 31 = .ok (.if_icmp .gt 58, 3) := by decide +kernel
theorem dX12_settle_34 : decode cX12_settle 34 = .ok (.aload_n 0, 1) := by decide +kernel
theorem dX12_settle_35 : decode cX12_settle 35 = .ok (.iload_n 1, 1) := by decide +kernel
theorem dX12_settle_36 : decode cX12_settle 36 = .ok (.invokevirtual 397, 3) := by decide +kernel
theorem dX12_settle_39 : decode cX12_settle 39 = .ok (.ifCond .le 30, 3) := by decide +kernel
theorem dX12_settle_42 : decode cX12_settle 42 = .ok (.aload_n 0, 1) := by decide +kernel
theorem dX12_settle_43 : decode cX12_settle 43 = .ok (.getfield 88, 3) := by decide +kernel
theorem dX12_settle_46 : decode cX12_settle 46 = .ok (.iload_n 1, 1) := by decide +kernel
theorem dX12_settle_47 : decode cX12_settle 47 = .ok (.iaload, 1) := by decide +kernel
theorem dX12_settle_48 : decode cX12_settle 48 = .ok (.iload_n 2, 1) := by decide +kernel
theorem dX12_settle_49 : decode cX12_settle 49 = .ok (.if_icmp .lt 20, 3) := by decide +kernel
theorem dX12_settle_52 : decode cX12_settle 52 = .ok (.aload_n 0, 1) := by decide +kernel
theorem dX12_settle_53 : decode cX12_settle 53 = .ok (.iload_n 1, 1) := by decide +kernel
theorem dX12_settle_54 : decode cX12_settle 54 = .ok (.iload_n 2, 1) := by decide +kernel
theorem dX12_settle_55 : decode cX12_settle 55 = .ok (.iconst (-1), 1) := by decide +kernel
theorem dX12_settle_56 : decode cX12_settle 56 = .ok (.aload_n 0, 1) := by decide +kernel
theorem dX12_settle_57 : decode cX12_settle 57 = .ok (.iload_n 2, 1) := by decide +kernel
theorem dX12_settle_58 : decode cX12_settle 58 = .ok (.iconst (-1), 1) := by decide +kernel
theorem dX12_settle_59 : decode cX12_settle 59 = .ok (.iconst 0, 1) := by decide +kernel
theorem dX12_settle_60 : decode cX12_settle 60 = .ok (.invokevirtual 404, 3) := by decide +kernel
theorem dX12_settle_63 : decode cX12_settle 63 = .ok (.invokevirtual 410, 3) := by decide +kernel
theorem dX12_settle_66 : decode cX12_settle 66 = .ok (.goto (-32), 3) := by decide +kernel
theorem dX12_settle_69 : decode cX12_settle 69 = .ok (.aload_n 0, 1) := by decide +kernel
theorem dX12_settle_70 : decode cX12_settle 70 = .ok (.iload_n 1, 1) := by decide +kernel
theorem dX12_settle_71 : decode cX12_settle 71 = .ok (.invokevirtual 397, 3) := by decide +kernel
theorem dX12_settle_74 : decode cX12_settle 74 = .ok (.ifCond .ne 5, 3) := by decide +kernel
theorem dX12_settle_77 : decode cX12_settle 77 = .ok (.iload_n 3, 1) := by decide +kernel
theorem dX12_settle_78 : decode cX12_settle 78 = .ok (.ireturn, 1) := by decide +kernel
theorem dX12_settle_79 : decode cX12_settle 79 = .ok (.aload_n 0, 1) := by decide +kernel
theorem dX12_settle_80 : decode cX12_settle 80 = .ok (.invokevirtual 417, 3) := by decide +kernel
theorem dX12_settle_83 : decode cX12_settle 83 = .ok (.iinc 3 1, 3) := by decide +kernel
theorem dX12_settle_86 : decode cX12_settle 86 = .ok (.goto (-58), 3) := by decide +kernel
theorem dX12_settle_89 : decode cX12_settle 89 = .ok (.iconst (-1), 1) := by decide +kernel
theorem dX12_settle_90 : decode cX12_settle 90 = .ok (.ireturn, 1) := by decide +kernel
theorem dX12_divisor_0 : decode cX12_divisor 0 = .ok (.iload_n 0, 1) := by decide +kernel
theorem dX12_divisor_1 : decode cX12_divisor 1 = .ok (.istore_n 2, 1) := by decide +kernel
theorem dX12_divisor_2 : decode cX12_divisor 2 = .ok (.iload_n 1, 1) := by decide +kernel
theorem dX12_divisor_3 : decode cX12_divisor 3 = .ok (.istore_n 3, 1) := by decide +kernel
theorem dX12_divisor_4 : decode cX12_divisor 4 = .ok (.iload_n 3, 1) := by decide +kernel
theorem dX12_divisor_5 : decode cX12_divisor 5 = .ok (.ifCond .le 16, 3) := by decide +kernel
theorem dX12_divisor_8 : decode cX12_divisor 8 = .ok (.iload_n 2, 1) := by decide +kernel
theorem dX12_divisor_9 : decode cX12_divisor 9 = .ok (.iload_n 3, 1) := by decide +kernel
theorem dX12_divisor_10 : decode cX12_divisor 10 = .ok (.irem, 1) := by decide +kernel
theorem dX12_divisor_11 : decode cX12_divisor 11 = .ok (.istore 4, 2) := by decide +kernel
theorem dX12_divisor_13 : decode cX12_divisor 13 = .ok (.iload_n 3, 1) := by decide +kernel
theorem dX12_divisor_14 : decode cX12_divisor 14 = .ok (.istore_n 2, 1) := by decide +kernel
theorem dX12_divisor_15 : decode cX12_divisor 15 = .ok (.iload 4, 2) := by decide +kernel
theorem dX12_divisor_17 : decode cX12_divisor 17 = .ok (.istore_n 3, 1) := by decide +kernel
theorem dX12_divisor_18 : decode cX12_divisor 18 = .ok (.goto (-14), 3) := by decide +kernel
theorem dX12_divisor_21 : decode cX12_divisor 21 = .ok (.iload_n 2, 1) := by decide +kernel
theorem dX12_divisor_22 : decode cX12_divisor 22 = .ok (.ireturn, 1) := by decide +kernel
theorem dX12_odds_0 : decode cX12_odds 0 = .ok (.aload_n 0, 1) := by decide +kernel
theorem dX12_odds_1 : decode cX12_odds 1 = .ok (.iload_n 1, 1) := by decide +kernel
theorem dX12_odds_2 : decode cX12_odds 2 = .ok (.invokevirtual 382, 3) := by decide +kernel
theorem dX12_odds_5 : decode cX12_odds 5 = .ok (.ifCond .eq 31, 3) := by decide +kernel
theorem dX12_odds_8 : decode cX12_odds 8 = .ok (.iload_n 2, 1) := by decide +kernel
theorem dX12_odds_9 : decode cX12_odds 9 = .ok (.iconst 0, 1) := by decide +kernel
theorem dX12_odds_10 : decode cX12_odds 10 = .ok (.iconst 4, 1) := by decide +kernel
theorem dX12_odds_11 : decode cX12_odds 11 = .ok (.invokestatic 368, 3) := by decide +kernel
theorem dX12_odds_14 : decode cX12_odds 14 = .ok (.ifCond .eq 22, 3) := by decide +kernel
theorem dX12_odds_17 : decode cX12_odds 17 = .ok (.iload_n 3, 1) := by decide +kernel
theorem dX12_odds_18 : decode cX12_odds 18 = .ok (.iconst 0, 1) := by decide +kernel
theorem dX12_odds_19 : decode cX12_odds 19 = .ok (.iload_n 2, 1) := by decide +kernel
theorem dX12_odds_20 : decode cX12_odds 20 = .ok (.invokestatic 368, 3) := by decide +kernel
theorem dX12_odds_23 : decode cX12_odds 23 = .ok (.ifCond .eq 13, 3) := by decide +kernel
theorem dX12_odds_26 : decode cX12_odds 26 = .ok (.iload 4, 2) := by decide +kernel
theorem dX12_odds_28 : decode cX12_odds 28 = .ok (.iconst 0, 1) := by decide +kernel
theorem dX12_odds_29 : decode cX12_odds 29 = .ok (.iconst 1, 1) := by decide +kernel
theorem dX12_odds_30 : decode cX12_odds 30 = .ok (.invokestatic 368, 3) := by decide +kernel
theorem dX12_odds_33 : decode cX12_odds 33 = .ok (.ifCond .ne 5, 3) := by decide +kernel
theorem dX12_odds_36 : decode cX12_odds 36 = .ok (.iconst (-1), 1) := by decide +kernel
theorem dX12_odds_37 : decode cX12_odds 37 = .ok (.ireturn, 1) := by decide +kernel
theorem dX12_odds_38 : decode cX12_odds 38 = .ok (.iconst 0, 1) := by decide +kernel
theorem dX12_odds_39 : decode cX12_odds 39 = .ok (.istore 5, 2) := by decide +kernel
theorem dX12_odds_41 : decode cX12_odds 41 = .ok (.iconst 0, 1) := by decide +kernel
theorem dX12_odds_42 : decode cX12_odds 42 = .ok (.istore 6, 2) := by decide +kernel
theorem dX12_odds_44 : decode cX12_odds 44 = .ok (.iload 6, 2) := by decide +kernel
theorem dX12_odds_46 : decode cX12_odds 46 = .ok (.iconst 1, 1) := by decide +kernel
theorem dX12_odds_47 : decode cX12_odds 47 = .ok (.iload_n 2, 1) := by decide +kernel
theorem dX12_odds_48 : decode cX12_odds 48 = .ok (.ishl, 1) := by decide +kernel
theorem dX12_odds_49 : decode cX12_odds 49 = .ok (.if_icmp .ge 59, 3) := by decide +kernel
theorem dX12_odds_52 : decode cX12_odds 52 = .ok (.iload 6, 2) := by decide +kernel
theorem dX12_odds_54 : decode cX12_odds 54 = .ok (.invokestatic 479, 3) := by decide +kernel
theorem dX12_odds_57 : decode cX12_odds 57 = .ok (.istore 7, 2) := by decide +kernel
theorem dX12_odds_59 : decode cX12_odds 59 = .ok (.iload 5, 2) := by decide +kernel
theorem dX12_odds_61 : decode cX12_odds 61 = .ok (.iload 7, 2) := by decide +kernel
theorem dX12_odds_63 : decode cX12_odds 63 = .ok (.iload_n 3, 1) := by decide +kernel
theorem dX12_odds_64 : decode cX12_odds 64 = .ok (.if_icmp .lt 34, 3) := by decide +kernel
theorem dX12_odds_67 : decode cX12_odds 67 = .ok (.bipush 100, 2) := by decide +kernel
theorem dX12_odds_69 : decode cX12_odds 69 = .ok (.aload_n 0, 1) := by decide +kernel
theorem dX12_odds_70 : decode cX12_odds 70 = .ok (.getfield 79, 3) := by decide +kernel
theorem dX12_odds_73 : decode cX12_odds 73 = .ok (.iload_n 1, 1) := by decide +kernel
theorem dX12_odds_74 : decode cX12_odds 74 = .ok (.iaload, 1) := by decide +kernel
theorem dX12_odds_75 : decode cX12_odds 75 = .ok (.isub, 1) := by decide +kernel
theorem dX12_odds_76 : decode cX12_odds 76 = .ok (.iload 7, 2) := by decide +kernel
theorem dX12_odds_78 : decode cX12_odds 78 = .ok (.invokestatic 424, 3) := by decide +kernel
theorem dX12_odds_81 : decode cX12_odds 81 = .ok (.aload_n 0, 1) := by decide +kernel
theorem dX12_odds_82 : decode cX12_odds 82 = .ok (.getfield 79, 3) := by decide +kernel
theorem dX12_odds_85 : decode cX12_odds 85 = .ok (.iload_n 1, 1) := by decide +kernel
theorem dX12_odds_86 : decode cX12_odds 86 = .ok (.iaload, 1) := by decide +kernel
theorem dX12_odds_87 : decode cX12_odds 87 = .ok (.iload_n 2, 1) := by decide +kernel
theorem dX12_odds_88 : decode cX12_odds 88 = .ok (.iload 7, 2) := by decide +kernel
theorem dX12_odds_90 : decode cX12_odds 90 = .ok (.isub, 1) := by decide +kernel
theorem dX12_odds_91 : decode cX12_odds 91 = .ok (.invokestatic 424, 3) := by decide +kernel
theorem dX12_odds_94 : decode cX12_odds 94 = .ok (.imul, 1) := by decide +kernel
theorem dX12_odds_95 : decode cX12_odds 95 = .ok (.goto 4, 3) := by decide +kernel
theorem dX12_odds_98 : decode cX12_odds 98 = .ok (.iconst 0, 1) := by decide +kernel
theorem dX12_odds_99 : decode cX12_odds 99 = .ok (.iadd, 1) := by decide +kernel
theorem dX12_odds_100 : decode cX12_odds 100 = .ok (.istore 5, 2) := by decide +kernel
theorem dX12_odds_102 : decode cX12_odds 102 = .ok (.iinc 6 1, 3) := by decide +kernel
theorem dX12_odds_105 : decode cX12_odds 105 = .ok (.goto (-61), 3) := by decide +kernel
theorem dX12_odds_108 : decode cX12_odds 108 = .ok (.bipush 100, 2) := by decide +kernel
theorem dX12_odds_110 : decode cX12_odds 110 = .ok (.iload_n 2, 1) := by decide +kernel
theorem dX12_odds_111 : decode cX12_odds 111 = .ok (.invokestatic 424, 3) := by decide +kernel
theorem dX12_odds_114 : decode cX12_odds 114 = .ok (.istore 6, 2) := by decide +kernel
theorem dX12_odds_116 : decode cX12_odds 116 = .ok (.iload 6, 2) := by decide +kernel
theorem dX12_odds_118 : decode cX12_odds 118 = .ok (.iload 5, 2) := by decide +kernel
theorem dX12_odds_120 : decode cX12_odds 120 = .ok (.invokestatic 482, 3) := by decide +kernel
theorem dX12_odds_123 : decode cX12_odds 123 = .ok (.istore 7, 2) := by decide +kernel
theorem dX12_odds_125 : decode cX12_odds 125 = .ok (.iload 4, 2) := by decide +kernel
theorem dX12_odds_127 : decode cX12_odds 127 = .ok (.ifCond .ne 11, 3) := by decide +kernel
theorem dX12_odds_130 : decode cX12_odds 130 = .ok (.iload 5, 2) := by decide +kernel
theorem dX12_odds_132 : decode cX12_odds 132 = .ok (.iload 7, 2) := by decide +kernel
theorem dX12_odds_134 : decode cX12_odds 134 = .ok (.idiv, 1) := by decide +kernel
theorem dX12_odds_135 : decode cX12_odds 135 = .ok (.goto 8, 3) := by decide +kernel
theorem dX12_odds_138 : decode cX12_odds 138 = .ok (.iload 6, 2) := by decide +kernel
theorem dX12_odds_140 : decode cX12_odds 140 = .ok (.iload 7, 2) := by decide +kernel
theorem dX12_odds_142 : decode cX12_odds 142 = .ok (.idiv, 1) := by decide +kernel
theorem dX12_odds_143 : decode cX12_odds 143 = .ok (.ireturn, 1) := by decide +kernel
theorem dX12_poorest_0 : decode cX12_poorest 0 = .ok (.aload_n 0, 1) := by decide +kernel
theorem dX12_poorest_1 : decode cX12_poorest 1 = .ok (.invokevirtual 394, 3) := by decide +kernel
theorem dX12_poorest_4 : decode cX12_poorest 4 = .ok (.iconst (-1), 1) := by decide +kernel
theorem dX12_poorest_5 : decode cX12_poorest 5 = .ok (.istore_n 1, 1) := by decide +kernel
theorem dX12_poorest_6 : decode cX12_poorest 6 = .ok (.iconst 0, 1) := by decide +kernel
theorem dX12_poorest_7 : decode cX12_poorest 7 = .ok (.istore_n 2, 1) := by decide +kernel
theorem dX12_poorest_8 : decode cX12_poorest 8 = .ok (.iload_n 2, 1) := by decide +kernel
theorem dX12_poorest_9 : decode cX12_poorest 9 = .ok (.aload_n 0, 1) := by decide +kernel
theorem dX12_poorest_10 : decode cX12_poorest 10 = .ok (.getfield 350, 3) := by decide +kernel
theorem dX12_poorest_13 : decode cX12_poorest 13 = .ok (.if_icmp .ge 28, 3) := by decide +kernel
theorem dX12_poorest_16 : decode cX12_poorest 16 = .ok (.iload_n 1, 1) := by decide +kernel
theorem dX12_poorest_17 : decode cX12_poorest 17 = .ok (.ifCond .lt 16, 3) := by decide +kernel
theorem dX12_poorest_20 : decode cX12_poorest 20 = .ok (.aload_n 0, 1) := by decide +kernel
theorem dX12_poorest_21 : decode cX12_poorest 21 = .ok (.iload_n 2, 1) := by decide +kernel
theorem dX12_poorest_22 : decode cX12_poorest 22 = .ok (.invokevirtual 397, 3) := by decide +kernel
theorem dX12_poorest_25 : decode cX12_poorest 25 = .ok (.aload_n 0, 1) := by decide +kernel
theorem dX12_poorest_26 : decode cX12_poorest 26 = .ok (.iload_n 1, 1) := by decide +kernel
theorem dX12_poorest_27 : decode cX12_poorest 27 = .ok (.invokevirtual 397, 3) := by decide +kernel
theorem dX12_poorest_30 : decode cX12_poorest 30 = .ok (.if_icmp .le 5, 3) := by decide +kernel
theorem dX12_poorest_33 : decode cX12_poorest 33 = .ok (.iload_n 2, 1) := by decide +kernel
theorem dX12_poorest_34 : decode cX12_poorest 34 = .ok (.istore_n 1, 1) := by decide +kernel
theorem dX12_poorest_35 : decode cX12_poorest 35 = .ok (.iinc 2 1, 3) := by decide +kernel
theorem dX12_poorest_38 : decode cX12_poorest 38 = .ok (.goto (-30), 3) := by decide +kernel
theorem dX12_poorest_41 : decode cX12_poorest 41 = .ok (.iload_n 1, 1) := by decide +kernel
theorem dX12_poorest_42 : decode cX12_poorest 42 = .ok (.ireturn, 1) := by decide +kernel
theorem dX12_owing_0 : decode cX12_owing 0 = .ok (.aload_n 0, 1) := by decide +kernel
theorem dX12_owing_1 : decode cX12_owing 1 = .ok (.invokevirtual 394, 3) := by decide +kernel
theorem dX12_owing_4 : decode cX12_owing 4 = .ok (.iconst 0, 1) := by decide +kernel
theorem dX12_owing_5 : decode cX12_owing 5 = .ok (.istore_n 1, 1) := by decide +kernel
theorem dX12_owing_6 : decode cX12_owing 6 = .ok (.iconst 0, 1) := by decide +kernel
theorem dX12_owing_7 : decode cX12_owing 7 = .ok (.istore_n 2, 1) := by decide +kernel
theorem dX12_owing_8 : decode cX12_owing 8 = .ok (.iload_n 2, 1) := by decide +kernel
theorem dX12_owing_9 : decode cX12_owing 9 = .ok (.aload_n 0, 1) := by decide +kernel
theorem dX12_owing_10 : decode cX12_owing 10 = .ok (.getfield 350, 3) := by decide +kernel
theorem dX12_owing_13 : decode cX12_owing 13 = .ok (.if_icmp .ge 30, 3) := by decide +kernel
theorem dX12_owing_16 : decode cX12_owing 16 = .ok (.iload_n 1, 1) := by decide +kernel
theorem dX12_owing_17 : decode cX12_owing 17 = .ok (.aload_n 0, 1) := by decide +kernel
theorem dX12_owing_18 : decode cX12_owing 18 = .ok (.iload_n 2, 1) := by decide +kernel
theorem dX12_owing_19 : decode cX12_owing 19 = .ok (.invokevirtual 397, 3) := by decide +kernel
theorem dX12_owing_22 : decode cX12_owing 22 = .ok (.ifCond .le 7, 3) := by decide +kernel
theorem dX12_owing_25 : decode cX12_owing 25 = .ok (.iconst 1, 1) := by decide +kernel
theorem dX12_owing_26 : decode cX12_owing 26 = .ok (.goto 4, 3) := by decide +kernel
theorem dX12_owing_29 : decode cX12_owing 29 = .ok (.iconst 0, 1) := by decide +kernel
theorem dX12_owing_30 : decode cX12_owing 30 = .ok (.invokestatic 304, 3) := by decide +kernel
theorem dX12_owing_33 : decode cX12_owing 33 = .ok (.iload_n 2, 1) := by decide +kernel
theorem dX12_owing_34 : decode cX12_owing 34 = .ok (.ishl, 1) := by decide +kernel
theorem dX12_owing_35 : decode cX12_owing 35 = .ok (.ior, 1) := by decide +kernel
theorem dX12_owing_36 : decode cX12_owing 36 = .ok (.istore_n 1, 1) := by decide +kernel
theorem dX12_owing_37 : decode cX12_owing 37 = .ok (.iinc 2 1, 3) := by decide +kernel
theorem dX12_owing_40 : decode cX12_owing 40 = .ok (.goto (-32), 3) := by decide +kernel
theorem dX12_owing_43 : decode cX12_owing 43 = .ok (.iload_n 1, 1) := by decide +kernel
theorem dX12_owing_44 : decode cX12_owing 44 = .ok (.ireturn, 1) := by decide +kernel
theorem dX12_law_0 : decode cX12_law 0 = .ok (.iload_n 1, 1) := by decide +kernel
theorem dX12_law_1 : decode cX12_law 1 = .ok (.sipush (-999), 3) := by decide +kernel
theorem dX12_law_4 : decode cX12_law 4 = .ok (.sipush 999, 3) := by decide +kernel
theorem dX12_law_7 : decode cX12_law 7 = .ok (.invokestatic 368, 3) := by decide +kernel
theorem dX12_law_10 : decode cX12_law 10 = .ok (.ifCond .ne 5, 3) := by decide +kernel
theorem dX12_law_13 : decode cX12_law 13 = .ok (.iconst (-1), 1) := by decide +kernel
theorem dX12_law_14 : decode cX12_law 14 = .ok (.ireturn, 1) := by decide +kernel
theorem dX12_law_15 : decode cX12_law 15 = .ok (.iconst 0, 1) := by decide +kernel
theorem dX12_law_16 : decode cX12_law 16 = .ok (.istore_n 2, 1) := by decide +kernel
theorem dX12_law_17 : decode cX12_law 17 = .ok (.iconst 0, 1) := by decide +kernel
theorem dX12_law_18 : decode cX12_law 18 = .ok (.istore_n 3, 1) := by decide +kernel
theorem dX12_law_19 : decode cX12_law 19 = .ok (.iload_n 3, 1) := by decide +kernel
theorem dX12_law_20 : decode cX12_law 20 = .ok (.aload_n 0, 1) := by decide +kernel
theorem dX12_law_21 : decode cX12_law 21 = .ok (.getfield 350, 3) := by decide +kernel
theorem dX12_law_24 : decode cX12_law 24 = .ok (.if_icmp .ge 69, 3) := by decide +kernel
theorem dX12_law_27 : decode cX12_law 27 = .ok (.aload_n 0, 1) := by decide +kernel
theorem dX12_law_28 : decode cX12_law 28 = .ok (.getfield 76, 3) := by decide +kernel
theorem dX12_law_31 : decode cX12_law 31 = .ok (.iload_n 3, 1) := by decide +kernel
theorem dX12_law_32 : decode cX12_law 32 = .ok (.iaload, 1) := by decide +kernel
theorem dX12_law_33 : decode cX12_law 33 = .ok (.iload_n 1, 1) := by decide +kernel
theorem dX12_law_34 : decode cX12_law 34 = .ok (.iadd, 1) := by decide +kernel
theorem dX12_law_35 : decode cX12_law 35 = .ok (.ifCond .le 14, 3) := by decide +kernel
theorem dX12_law_38 : decode cX12_law 38 = .ok (.aload_n 0, 1) := by decide +kernel
theorem dX12_law_39 : decode cX12_law 39 = .ok (.getfield 76, 3) := by decide +kernel
theorem dX12_law_42 : decode cX12_law 42 = .ok (.iload_n 3, 1) := by decide +kernel
theorem dX12_law_43 : decode cX12_law 43 = .ok (.iaload, 1) := by decide +kernel
theorem dX12_law_44 : decode cX12_law 44 = .ok (.iload_n 1, 1) := by decide +kernel
theorem dX12_law_45 : decode cX12_law 45 = .ok (.iadd, 1) := by decide +kernel
theorem dX12_law_46 : decode cX12_law 46 = .ok (.goto 4, 3) := by decide +kernel
theorem dX12_law_49 : decode cX12_law 49 = .ok (.iconst 0, 1) := by decide +kernel
theorem dX12_law_50 : decode cX12_law 50 = .ok (.istore 4, 2) := by decide +kernel
theorem dX12_law_52 : decode cX12_law 52 = .ok (.iload_n 2, 1) := by decide +kernel
theorem dX12_law_53 : decode cX12_law 53 = .ok (.iload 4, 2) := by decide +kernel
