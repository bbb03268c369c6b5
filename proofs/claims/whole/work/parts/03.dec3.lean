theorem dX11_end_0 : decode cX11_end 0 = .ok (.iload_n 1, 1) := by decide +kernel
theorem dX11_end_1 : decode cX11_end 1 = .ok (.ifCond .lt 11, 3) := by decide +kernel
theorem dX11_end_4 : decode cX11_end 4 = .ok (.iload_n 1, 1) := by decide +kernel
theorem dX11_end_5 : decode cX11_end 5 = .ok (.aload_n 0, 1) := by decide +kernel
theorem dX11_end_6 : decode cX11_end 6 = .ok (.getfield 13, 3) := by decide +kernel
theorem dX11_end_9 : decode cX11_end 9 = .ok (.if_icmp .le 5, 3) := by decide +kernel
theorem dX11_end_12 : decode cX11_end 12 = .ok (.iconst (-1), 1) := by decide +kernel
theorem dX11_end_13 : decode cX11_end 13 = .ok (.ireturn, 1) := by decide +kernel
theorem dX11_end_14 : decode cX11_end 14 = .ok (.aload_n 0, 1) := by decide +kernel
theorem dX11_end_15 : decode cX11_end 15 = .ok (.iload_n 1, 1) := by decide +kernel
theorem dX11_end_16 : decode cX11_end 16 = .ok (.putfield 13, 3) := by decide +kernel
theorem dX11_end_19 : decode cX11_end 19 = .ok (.iload_n 1, 1) := by decide +kernel
theorem dX11_end_20 : decode cX11_end 20 = .ok (.ireturn, 1) := by decide +kernel
theorem dX11_house_0 : decode cX11_house 0 = .ok (.aload_n 0, 1) := by decide +kernel
theorem dX11_house_1 : decode cX11_house 1 = .ok (.getfield 22, 3) := by decide +kernel
theorem dX11_house_4 : decode cX11_house 4 = .ok (.aload_n 0, 1) := by decide +kernel
theorem dX11_house_5 : decode cX11_house 5 = .ok (.getfield 13, 3) := by decide +kernel
theorem dX11_house_8 : decode cX11_house 8 = .ok (.aload_n 0, 1) := by decide +kernel
theorem dX11_house_9 : decode cX11_house 9 = .ok (.getfield 33, 3) := by decide +kernel
theorem dX11_house_12 : decode cX11_house 12 = .ok (.invokevirtual 99, 3) := by decide +kernel
theorem dX11_house_15 : decode cX11_house 15 = .ok (.istore_n 1, 1) := by decide +kernel
theorem dX11_house_16 : decode cX11_house 16 = .ok (.aload_n 0, 1) := by decide +kernel
theorem dX11_house_17 : decode cX11_house 17 = .ok (.iconst 0, 1) := by decide +kernel
theorem dX11_house_18 : decode cX11_house 18 = .ok (.putfield 13, 3) := by decide +kernel
theorem dX11_house_21 : decode cX11_house 21 = .ok (.iload_n 1, 1) := by decide +kernel
theorem dX11_house_22 : decode cX11_house 22 = .ok (.ifCond .ne 5, 3) := by decide +kernel
theorem dX11_house_25 : decode cX11_house 25 = .ok (.iconst (-1), 1) := by decide +kernel
theorem dX11_house_26 : decode cX11_house 26 = .ok (.ireturn, 1) := by decide +kernel
theorem dX11_house_27 : decode cX11_house 27 = .ok (.aload_n 0, 1) := by decide +kernel
theorem dX11_house_28 : decode cX11_house 28 = .ok (.getfield 29, 3) := by decide +kernel
theorem dX11_house_31 : decode cX11_house 31 = .ok (.astore_n 2, 1) := by decide +kernel
theorem dX11_house_32 : decode cX11_house 32 = .ok (.aload_n 0, 1) := by decide +kernel
theorem dX11_house_33 : decode cX11_house 33 = .ok (.aload_n 0, 1) := by decide +kernel
theorem dX11_house_34 : decode cX11_house 34 = .ok (.getfield 33, 3) := by decide +kernel
theorem dX11_house_37 : decode cX11_house 37 = .ok (.putfield 29, 3) := by decide +kernel
theorem dX11_house_40 : decode cX11_house 40 = .ok (.aload_n 0, 1) := by decide +kernel
theorem dX11_house_41 : decode cX11_house 41 = .ok (.aload_n 2, 1) := by decide +kernel
theorem dX11_house_42 : decode cX11_house 42 = .ok (.putfield 33, 3) := by decide +kernel
theorem dX11_house_45 : decode cX11_house 45 = .ok (.aload_n 0, 1) := by decide +kernel
theorem dX11_house_46 : decode cX11_house 46 = .ok (.getfield 29, 3) := by decide +kernel
theorem dX11_house_49 : decode cX11_house 49 = .ok (.aload_n 0, 1) := by decide +kernel
theorem dX11_house_50 : decode cX11_house 50 = .ok (.getfield 39, 3) := by decide +kernel
theorem dX11_house_53 : decode cX11_house 53 = .ok (.invokevirtual 88, 3) := by decide +kernel
theorem dX11_house_56 : decode cX11_house 56 = .ok (.aload_n 0, 1) := by decide +kernel
theorem dX11_house_57 : decode cX11_house 57 = .ok (.getfield 49, 3) := by decide +kernel
theorem dX11_house_60 : decode cX11_house 60 = .ok (.aload_n 0, 1) := by decide +kernel
theorem dX11_house_61 : decode cX11_house 61 = .ok (.getfield 39, 3) := by decide +kernel
theorem dX11_house_64 : decode cX11_house 64 = .ok (.invokevirtual 92, 3) := by decide +kernel
theorem dX11_house_67 : decode cX11_house 67 = .ok (.aload_n 0, 1) := by decide +kernel
theorem dX11_house_68 : decode cX11_house 68 = .ok (.getfield 49, 3) := by decide +kernel
theorem dX11_house_71 : decode cX11_house 71 = .ok (.invokevirtual 103, 3) := by decide +kernel
theorem dX11_house_74 : decode cX11_house 74 = .ok (.aload_n 0, 1) := by decide +kernel
theorem dX11_house_75 : decode cX11_house 75 = .ok (.getfield 63, 3) := by decide +kernel
theorem dX11_house_78 : decode cX11_house 78 = .ok (.invokevirtual 106, 3) := by decide +kernel
theorem dX11_house_81 : decode cX11_house 81 = .ok (.aload_n 0, 1) := by decide +kernel
theorem dX11_house_82 : decode cX11_house 82 = .ok (.getfield 56, 3) := by decide +kernel
theorem dX11_house_85 : decode cX11_house 85 = .ok (.invokevirtual 109, 3) := by decide +kernel
theorem dX11_house_88 : decode cX11_house 88 = .ok (.aload_n 0, 1) := by decide +kernel
theorem dX11_house_89 : decode cX11_house 89 = .ok (.getfield 29, 3) := by decide +kernel
theorem dX11_house_92 : decode cX11_house 92 = .ok (.getfield 110, 3) := by decide +kernel
theorem dX11_house_95 : decode cX11_house 95 = .ok (.ireturn, 1) := by decide +kernel
theorem dX11_fault_0 : decode cX11_fault 0 = .ok (.iload_n 1, 1) := by decide +kernel
theorem dX11_fault_1 : decode cX11_fault 1 = .ok (.ifCond .ne 11, 3) := by decide +kernel
theorem dX11_fault_4 : decode cX11_fault 4 = .ok (.aload_n 0, 1) := by decide +kernel
theorem dX11_fault_5 : decode cX11_fault 5 = .ok (.getfield 22, 3) := by decide +kernel
theorem dX11_fault_8 : decode cX11_fault 8 = .ok (.getfield 113, 3) := by decide +kernel
theorem dX11_fault_11 : decode cX11_fault 11 = .ok (.ireturn, 1) := by decide +kernel
theorem dX11_fault_12 : decode cX11_fault 12 = .ok (.iload_n 1, 1) := by decide +kernel
theorem dX11_fault_13 : decode cX11_fault 13 = .ok (.iconst 1, 1) := by decide +kernel
theorem dX11_fault_14 : decode cX11_fault 14 = .ok (.if_icmp .ne 13, 3) := by decide +kernel
theorem dX11_fault_17 : decode cX11_fault 17 = .ok (.aload_n 0, 1) := by decide +kernel
theorem dX11_fault_18 : decode cX11_fault 18 = .ok (.getfield 22, 3) := by decide +kernel
theorem dX11_fault_21 : decode cX11_fault 21 = .ok (.getfield 116, 3) := by decide +kernel
theorem dX11_fault_24 : decode cX11_fault 24 = .ok (.goto 4, 3) := by decide +kernel
theorem dX11_fault_27 : decode cX11_fault 27 = .ok (.iconst (-1), 1) := by decide +kernel
theorem dX11_fault_28 : decode cX11_fault 28 = .ok (.ireturn, 1) := by decide +kernel
theorem dX11_tenant_0 : decode cX11_tenant 0 = .ok (.aload_n 0, 1) := by decide +kernel
theorem dX11_tenant_1 : decode cX11_tenant 1 = .ok (.getfield 29, 3) := by decide +kernel
theorem dX11_tenant_4 : decode cX11_tenant 4 = .ok (.iload_n 1, 1) := by decide +kernel
theorem dX11_tenant_5 : decode cX11_tenant 5 = .ok (.invokevirtual 119, 3) := by decide +kernel
theorem dX11_tenant_8 : decode cX11_tenant 8 = .ok (.ifCond .ne 5, 3) := by decide +kernel
theorem dX11_tenant_11 : decode cX11_tenant 11 = .ok (.iconst (-1), 1) := by decide +kernel
theorem dX11_tenant_12 : decode cX11_tenant 12 = .ok (.ireturn, 1) := by decide +kernel
theorem dX11_tenant_13 : decode cX11_tenant 13 = .ok (.iload_n 2, 1) := by decide +kernel
theorem dX11_tenant_14 : decode cX11_tenant 14 = .ok (.tableswitch 143 0 8 #[50, 60, 70, 80, 90, 100, 110, 120, 130], 50) := by decide +kernel
theorem dX11_tenant_64 : decode cX11_tenant 64 = .ok (.aload_n 0, 1) := by decide +kernel
theorem dX11_tenant_65 : decode cX11_tenant 65 = .ok (.getfield 29, 3) := by decide +kernel
theorem dX11_tenant_68 : decode cX11_tenant 68 = .ok (.getfield 123, 3) := by decide +kernel
theorem dX11_tenant_71 : decode cX11_tenant 71 = .ok (.iload_n 1, 1) := by decide +kernel
theorem dX11_tenant_72 : decode cX11_tenant 72 = .ok (.iaload, 1) := by decide +kernel
theorem dX11_tenant_73 : decode cX11_tenant 73 = .ok (.ireturn, 1) := by decide +kernel
theorem dX11_tenant_74 : decode cX11_tenant 74 = .ok (.aload_n 0, 1) := by decide +kernel
theorem dX11_tenant_75 : decode cX11_tenant 75 = .ok (.getfield 29, 3) := by decide +kernel
theorem dX11_tenant_78 : decode cX11_tenant 78 = .ok (.getfield 127, 3) := by decide +kernel
theorem dX11_tenant_81 : decode cX11_tenant 81 = .ok (.iload_n 1, 1) := by decide +kernel
theorem dX11_tenant_82 : decode cX11_tenant 82 = .ok (.iaload, 1) := by decide +kernel
theorem dX11_tenant_83 : decode cX11_tenant 83 = .ok (.ireturn, 1) := by decide +kernel
theorem dX11_tenant_84 : decode cX11_tenant 84 = .ok (.aload_n 0, 1) := by decide +kernel
theorem dX11_tenant_85 : decode cX11_tenant 85 = .ok (.getfield 29, 3) := by decide +kernel
theorem dX11_tenant_88 : decode cX11_tenant 88 = .ok (.getfield 130, 3) := by decide +kernel
theorem dX11_tenant_91 : decode cX11_tenant 91 = .ok (.iload_n 1, 1) := by decide +kernel
theorem dX11_tenant_92 : decode cX11_tenant 92 = .ok (.iaload, 1) := by decide +kernel
theorem dX11_tenant_93 : decode cX11_tenant 93 = .ok (.ireturn, 1) := by decide +kernel
theorem dX11_tenant_94 : decode cX11_tenant 94 = .ok (.aload_n 0, 1) := by decide +kernel
theorem dX11_tenant_95 : decode cX11_tenant 95 = .ok (.getfield 29, 3) := by decide +kernel
theorem dX11_tenant_98 : decode cX11_tenant 98 = .ok (.getfield 133, 3) := by decide +kernel
theorem dX11_tenant_101 : decode cX11_tenant 101 = .ok (.iload_n 1, 1) := by decide +kernel
theorem dX11_tenant_102 : decode cX11_tenant 102 = .ok (.iaload, 1) := by decide +kernel
theorem dX11_tenant_103 : decode cX11_tenant 103 = .ok (.ireturn, 1) := by decide +kernel
theorem dX11_tenant_104 : decode cX11_tenant 104 = .ok (.aload_n 0, 1) := by decide +kernel
theorem dX11_tenant_105 : decode cX11_tenant 105 = .ok (.getfield 29, 3) := by decide +kernel
theorem dX11_tenant_108 : decode cX11_tenant 108 = .ok (.getfield 136, 3) := by decide +kernel
theorem dX11_tenant_111 : decode cX11_tenant 111 = .ok (.iload_n 1, 1) := by decide +kernel
theorem dX11_tenant_112 : decode cX11_tenant 112 = .ok (.iaload, 1) := by decide +kernel
theorem dX11_tenant_113 : decode cX11_tenant 113 = .ok (.ireturn, 1) := by decide +kernel
theorem dX11_tenant_114 : decode cX11_tenant 114 = .ok (.aload_n 0, 1) := by decide +kernel
theorem dX11_tenant_115 : decode cX11_tenant 115 = .ok (.getfield 39, 3) := by decide +kernel
theorem dX11_tenant_118 : decode cX11_tenant 118 = .ok (.getfield 139, 3) := by decide +kernel
theorem dX11_tenant_121 : decode cX11_tenant 121 = .ok (.iload_n 1, 1) := by decide +kernel
theorem dX11_tenant_122 : decode cX11_tenant 122 = .ok (.iaload, 1) := by decide +kernel
theorem dX11_tenant_123 : decode cX11_tenant 123 = .ok (.ireturn, 1) := by decide +kernel
theorem dX11_tenant_124 : decode cX11_tenant 124 = .ok (.aload_n 0, 1) := by decide +kernel
theorem dX11_tenant_125 : decode cX11_tenant 125 = .ok (.getfield 39, 3) := by decide +kernel
theorem dX11_tenant_128 : decode cX11_tenant 128 = .ok (.getfield 142, 3) := by decide +kernel
theorem dX11_tenant_131 : decode cX11_tenant 131 = .ok (.iload_n 1, 1) := by decide +kernel
theorem dX11_tenant_132 : decode cX11_tenant 132 = .ok (.iaload, 1) := by decide +kernel
theorem dX11_tenant_133 : decode cX11_tenant 133 = .ok (.ireturn, 1) := by decide +kernel
theorem dX11_tenant_134 : decode cX11_tenant 134 = .ok (.aload_n 0, 1) := by decide +kernel
theorem dX11_tenant_135 : decode cX11_tenant 135 = .ok (.getfield 39, 3) := by decide +kernel
theorem dX11_tenant_138 : decode cX11_tenant 138 = .ok (.getfield 145, 3) := by decide +kernel
theorem dX11_tenant_141 : decode cX11_tenant 141 = .ok (.iload_n 1, 1) := by decide +kernel
theorem dX11_tenant_142 : decode cX11_tenant 142 = .ok (.iaload, 1) := by decide +kernel
theorem dX11_tenant_143 : decode cX11_tenant 143 = .ok (.ireturn, 1) := by decide +kernel
theorem dX11_tenant_144 : decode cX11_tenant 144 = .ok (.aload_n 0, 1) := by decide +kernel
theorem dX11_tenant_145 : decode cX11_tenant 145 = .ok (.getfield 29, 3) := by decide +kernel
theorem dX11_tenant_148 : decode cX11_tenant 148 = .ok (.aload_n 0, 1) := by decide +kernel
theorem dX11_tenant_149 : decode cX11_tenant 149 = .ok (.getfield 39, 3) := by decide +kernel
theorem dX11_tenant_152 : decode cX11_tenant 152 = .ok (.iload_n 1, 1) := by decide +kernel
theorem dX11_tenant_153 : decode cX11_tenant 153 = .ok (.invokevirtual 148, 3) := by decide +kernel
theorem dX11_tenant_156 : decode cX11_tenant 156 = .ok (.ireturn, 1) := by decide +kernel
theorem dX11_tenant_157 : decode cX11_tenant 157 = .ok (.iconst (-1), 1) := by decide +kernel
theorem dX11_tenant_158 : decode cX11_tenant 158 = .ok (.ireturn, 1) := by decide +kernel
theorem dX11_worth_0 : decode cX11_worth 0 = .ok (.aload_n 0, 1) := by decide +kernel
theorem dX11_worth_1 : decode cX11_worth 1 = .ok (.getfield 29, 3) := by decide +kernel
theorem dX11_worth_4 : decode cX11_worth 4 = .ok (.aload_n 0, 1) := by decide +kernel
theorem dX11_worth_5 : decode cX11_worth 5 = .ok (.getfield 39, 3) := by decide +kernel
theorem dX11_worth_8 : decode cX11_worth 8 = .ok (.iload_n 1, 1) := by decide +kernel
theorem dX11_worth_9 : decode cX11_worth 9 = .ok (.iload_n 2, 1) := by decide +kernel
theorem dX11_worth_10 : decode cX11_worth 10 = .ok (.iload_n 3, 1) := by decide +kernel
theorem dX11_worth_11 : decode cX11_worth 11 = .ok (.iload 4, 2) := by decide +kernel
theorem dX11_worth_13 : decode cX11_worth 13 = .ok (.invokevirtual 152, 3) := by decide +kernel
theorem dX11_worth_16 : decode cX11_worth 16 = .ok (.ifCond .ne 5, 3) := by decide +kernel
theorem dX11_worth_19 : decode cX11_worth 19 = .ok (.iconst (-1), 1) := by decide +kernel
theorem dX11_worth_20 : decode cX11_worth 20 = .ok (.ireturn, 1) := by decide +kernel
theorem dX11_worth_21 : decode cX11_worth 21 = .ok (.aload_n 0, 1) := by decide +kernel
theorem dX11_worth_22 : decode cX11_worth 22 = .ok (.getfield 29, 3) := by decide +kernel
theorem dX11_worth_25 : decode cX11_worth 25 = .ok (.iload_n 3, 1) := by decide +kernel
theorem dX11_worth_26 : decode cX11_worth 26 = .ok (.invokevirtual 156, 3) := by decide +kernel
theorem dX11_worth_29 : decode cX11_worth 29 = .ok (.istore 6, 2) := by decide +kernel
theorem dX11_worth_31 : decode cX11_worth 31 = .ok (.iload 5, 2) := by decide +kernel
theorem dX11_worth_33 : decode cX11_worth 33 = .ok (.ifCond .ne 27, 3) := by decide +kernel
theorem dX11_worth_36 : decode cX11_worth 36 = .ok (.aload_n 0, 1) := by decide +kernel
theorem dX11_worth_37 : decode cX11_worth 37 = .ok (.getfield 29, 3) := by decide +kernel
theorem dX11_worth_40 : decode cX11_worth 40 = .ok (.aload_n 0, 1) := by decide +kernel
theorem dX11_worth_41 : decode cX11_worth 41 = .ok (.getfield 39, 3) := by decide +kernel
theorem dX11_worth_44 : decode cX11_worth 44 = .ok (.iload_n 2, 1) := by decide +kernel
theorem dX11_worth_45 : decode cX11_worth 45 = .ok (.iload 6, 2) := by decide +kernel
theorem dX11_worth_47 : decode cX11_worth 47 = .ok (.iload 4, 2) := by decide +kernel
theorem dX11_worth_49 : decode cX11_worth 49 = .ok (.aload_n 0, 1) := by decide +kernel
theorem dX11_worth_50 : decode cX11_worth 50 = .ok (.getfield 39, 3) := by decide +kernel
theorem dX11_worth_53 : decode cX11_worth 53 = .ok (.getfield 160, 3) := by decide +kernel
theorem dX11_worth_56 : decode cX11_worth 56 = .ok (.invokevirtual 163, 3) := by decide +kernel
theorem dX11_worth_59 : decode cX11_worth 59 = .ok (.ireturn, 1) := by decide +kernel
theorem dX11_worth_60 : decode cX11_worth 60 = .ok (.iload 5, 2) := by decide +kernel
theorem dX11_worth_62 : decode cX11_worth 62 = .ok (.iconst 1, 1) := by decide +kernel
theorem dX11_worth_63 : decode cX11_worth 63 = .ok (.if_icmp .ne 16, 3) := by decide +kernel
theorem dX11_worth_66 : decode cX11_worth 66 = .ok (.aload_n 0, 1) := by decide +kernel
theorem dX11_worth_67 : decode cX11_worth 67 = .ok (.getfield 29, 3) := by decide +kernel
theorem dX11_worth_70 : decode cX11_worth 70 = .ok (.iload_n 2, 1) := by decide +kernel
theorem dX11_worth_71 : decode cX11_worth 71 = .ok (.iload 6, 2) := by decide +kernel
theorem dX11_worth_73 : decode cX11_worth 73 = .ok (.invokevirtual 167, 3) := by decide +kernel
theorem dX11_worth_76 : decode cX11_worth 76 = .ok (.goto 4, 3) := by decide +kernel
theorem dX11_worth_79 : decode cX11_worth 79 = .ok (.iconst (-1), 1) := by decide +kernel
theorem dX11_worth_80 : decode cX11_worth 80 = .ok (.ireturn, 1) := by decide +kernel
theorem dX11_climb_0 : decode cX11_climb 0 = .ok (.aload_n 0, 1) := by decide +kernel
theorem dX11_climb_1 : decode cX11_climb 1 = .ok (.getfield 29, 3) := by decide +kernel
theorem dX11_climb_4 : decode cX11_climb 4 = .ok (.aload_n 0, 1) := by decide +kernel
theorem dX11_climb_5 : decode cX11_climb 5 = .ok (.getfield 39, 3) := by decide +kernel
theorem dX11_climb_8 : decode cX11_climb 8 = .ok (.iload_n 1, 1) := by decide +kernel
theorem dX11_climb_9 : decode cX11_climb 9 = .ok (.iload_n 2, 1) := by decide +kernel
theorem dX11_climb_10 : decode cX11_climb 10 = .ok (.iload_n 3, 1) := by decide +kernel
theorem dX11_climb_11 : decode cX11_climb 11 = .ok (.iload 4, 2) := by decide +kernel
theorem dX11_climb_13 : decode cX11_climb 13 = .ok (.invokevirtual 152, 3) := by decide +kernel
theorem dX11_climb_16 : decode cX11_climb 16 = .ok (.ifCond .ne 5, 3) := by decide +kernel
theorem dX11_climb_19 : decode cX11_climb 19 = .ok (.iconst (-1), 1) := by decide +kernel
theorem dX11_climb_20 : decode cX11_climb 20 = .ok (.ireturn, 1) := by decide +kernel
theorem dX11_climb_21 : decode cX11_climb 21 = .ok (.aload_n 0, 1) := by decide +kernel
theorem dX11_climb_22 : decode cX11_climb 22 = .ok (.getfield 29, 3) := by decide +kernel
theorem dX11_climb_25 : decode cX11_climb 25 = .ok (.iload_n 3, 1) := by decide +kernel
theorem dX11_climb_26 : decode cX11_climb 26 = .ok (.invokevirtual 156, 3) := by decide +kernel
theorem dX11_climb_29 : decode cX11_climb 29 = .ok (.istore 5, 2) := by decide +kernel
theorem dX11_climb_31 : decode cX11_climb 31 = .ok (.aload_n 0, 1) := by decide +kernel
theorem dX11_climb_32 : decode cX11_climb 32 = .ok (.getfield 29, 3) := by decide +kernel
theorem dX11_climb_35 : decode cX11_climb 35 = .ok (.aload_n 0, 1) := by decide +kernel
theorem dX11_climb_36 : decode cX11_climb 36 = .ok (.getfield 39, 3) := by decide +kernel
theorem dX11_climb_39 : decode cX11_climb 39 = .ok (.iload_n 2, 1) := by decide +kernel
theorem dX11_climb_40 : decode cX11_climb 40 = .ok (.iload 5, 2) := by decide +kernel
theorem dX11_climb_42 : decode cX11_climb 42 = .ok (.iload 4, 2) := by decide +kernel
theorem dX11_climb_44 : decode cX11_climb 44 = .ok (.aload_n 0, 1) := by decide +kernel
theorem dX11_climb_45 : decode cX11_climb 45 = .ok (.getfield 39, 3) := by decide +kernel
theorem dX11_climb_48 : decode cX11_climb 48 = .ok (.getfield 160, 3) := by decide +kernel
theorem dX11_climb_51 : decode cX11_climb 51 = .ok (.invokevirtual 163, 3) := by decide +kernel
theorem dX11_climb_54 : decode cX11_climb 54 = .ok (.istore 6, 2) := by decide +kernel
theorem dX11_climb_56 : decode cX11_climb 56 = .ok (.aload_n 0, 1) := by decide +kernel
theorem dX11_climb_57 : decode cX11_climb 57 = .ok (.getfield 29, 3) := by decide +kernel
theorem dX11_climb_60 : decode cX11_climb 60 = .ok (.aload_n 0, 1) := by decide +kernel
theorem dX11_climb_61 : decode cX11_climb 61 = .ok (.getfield 39, 3) := by decide +kernel
theorem dX11_climb_64 : decode cX11_climb 64 = .ok (.iload_n 1, 1) := by decide +kernel
theorem dX11_climb_65 : decode cX11_climb 65 = .ok (.invokevirtual 171, 3) := by decide +kernel
theorem dX11_climb_68 : decode cX11_climb 68 = .ok (.ifCond .eq 6, 3) := by decide +kernel
theorem dX11_climb_71 : decode cX11_climb 71 = .ok (.iconst 0, 1) := by decide +kernel
theorem dX11_climb_72 : decode cX11_climb 72 = .ok (.istore 6, 2) := by decide +kernel
theorem dX11_climb_74 : decode cX11_climb 74 = .ok (.aload_n 0, 1) := by decide +kernel
theorem dX11_climb_75 : decode cX11_climb 75 = .ok (.getfield 29, 3) := by decide +kernel
theorem dX11_climb_78 : decode cX11_climb 78 = .ok (.aload_n 0, 1) := by decide +kernel
theorem dX11_climb_79 : decode cX11_climb 79 = .ok (.getfield 39, 3) := by decide +kernel
theorem dX11_climb_82 : decode cX11_climb 82 = .ok (.iload_n 1, 1) := by decide +kernel
theorem dX11_climb_83 : decode cX11_climb 83 = .ok (.iload_n 2, 1) := by decide +kernel
theorem dX11_climb_84 : decode cX11_climb 84 = .ok (.iload 5, 2) := by decide +kernel
theorem dX11_climb_86 : decode cX11_climb 86 = .ok (.iload 6, 2) := by decide +kernel
theorem dX11_climb_88 : decode cX11_climb 88 = .ok (.invokevirtual 175, 3) := by decide +kernel
theorem dX11_climb_91 : decode cX11_climb 91 = .ok (.aload_n 0, 1) := by decide +kernel
theorem dX11_climb_92 : decode cX11_climb 92 = .ok (.getfield 49, 3) := by decide +kernel
theorem dX11_climb_95 : decode cX11_climb 95 = .ok (.aload_n 0, 1) := by decide +kernel
theorem dX11_climb_96 : decode cX11_climb 96 = .ok (.getfield 39, 3) := by decide +kernel
theorem dX11_climb_99 : decode cX11_climb 99 = .ok (.invokevirtual 179, 3) := by decide +kernel
theorem dX11_climb_102 : decode cX11_climb 102 = .ok (.iload 6, 2) := by decide +kernel
theorem dX11_climb_104 : decode cX11_climb 104 = .ok (.ireturn, 1) := by decide +kernel
theorem dX11_give_0 : decode cX11_give 0 = .ok (.aload_n 0, 1) := by decide +kernel
theorem dX11_give_1 : decode cX11_give 1 = .ok (.iload_n 1, 1) := by decide +kernel
theorem dX11_give_2 : decode cX11_give 2 = .ok (.iload_n 2, 1) := by decide +kernel
theorem dX11_give_3 : decode cX11_give 3 = .ok (.invokevirtual 182, 3) := by decide +kernel
theorem dX11_give_6 : decode cX11_give 6 = .ok (.ifCond .eq 38, 3) := by decide +kernel
theorem dX11_give_9 : decode cX11_give 9 = .ok (.iload_n 3, 1) := by decide +kernel
theorem dX11_give_10 : decode cX11_give 10 = .ok (.iconst 1, 1) := by decide +kernel
theorem dX11_give_11 : decode cX11_give 11 = .ok (.if_icmp .lt 33, 3) := by decide +kernel
theorem dX11_give_14 : decode cX11_give 14 = .ok (.iload_n 3, 1) := by decide +kernel
theorem dX11_give_15 : decode cX11_give 15 = .ok (.aload_n 0, 1) := by decide +kernel
theorem dX11_give_16 : decode cX11_give 16 = .ok (.getfield 39, 3) := by decide +kernel
theorem dX11_give_19 : decode cX11_give 19 = .ok (.getfield 142, 3) := by decide +kernel
theorem dX11_give_22 : decode cX11_give 22 = .ok (.iload_n 1, 1) := by decide +kernel
theorem dX11_give_23 : decode cX11_give 23 = .ok (.iaload, 1) := by decide +kernel
theorem dX11_give_24 : decode cX11_give 24 = .ok (.if_icmp .gt 20, 3) := by decide +kernel
theorem dX11_give_27 : decode cX11_give 27 = .ok (.aload_n 0, 1) := by decide +kernel
theorem dX11_give_28 : decode cX11_give 28 = .ok (.getfield 39, 3) := by decide +kernel
theorem dX11_give_31 : decode cX11_give 31 = .ok (.getfield 142, 3) := by decide +kernel
theorem dX11_give_34 : decode cX11_give 34 = .ok (.iload_n 2, 1) := by decide +kernel
theorem dX11_give_35 : decode cX11_give 35 = .ok (.iaload, 1) := by decide +kernel
theorem dX11_give_36 : decode cX11_give 36 = .ok (.sipush 9999, 3) := by decide +kernel
theorem dX11_give_39 : decode cX11_give 39 = .ok (.iload_n 3, 1) := by decide +kernel
theorem dX11_give_40 : decode cX11_give 40 = .ok (.isub, 1) := by decide +kernel
theorem dX11_give_41 : decode cX11_give 41 = .ok (.if_icmp .le 5, 3) := by decide +kernel
theorem dX11_give_44 : decode cX11_give 44 = .ok (.iconst (-1), 1) := by decide +kernel
theorem dX11_give_45 : decode cX11_give 45 = .ok (.ireturn, 1) := by decide +kernel
theorem dX11_give_46 : decode cX11_give 46 = .ok (.aload_n 0, 1) := by decide +kernel
theorem dX11_give_47 : decode cX11_give 47 = .ok (.getfield 39, 3) := by decide +kernel
theorem dX11_give_50 : decode cX11_give 50 = .ok (.getfield 142, 3) := by decide +kernel
theorem dX11_give_53 : decode cX11_give 53 = .ok (.iload_n 1, 1) := by decide +kernel
theorem dX11_give_54 : decode cX11_give 54 = .ok (.dup2, 1) := by decide +kernel
theorem dX11_give_55 : decode cX11_give 55 = .ok (.iaload, 1) := by decide +kernel
theorem dX11_give_56 : decode cX11_give 56 = .ok (.iload_n 3, 1) := by decide +kernel
theorem dX11_give_57 : decode cX11_give 57 = .ok (.isub, 1) := by decide +kernel
theorem dX11_give_58 : decode cX11_give 58 = .ok (.iastore, 1) := by decide +kernel
theorem dX11_give_59 : decode cX11_give 59 = .ok (.aload_n 0, 1) := by decide +kernel
theorem dX11_give_60 : decode cX11_give 60 = .ok (.getfield 39, 3) := by decide +kernel
theorem dX11_give_63 : decode cX11_give 63 = .ok (.getfield 142, 3) := by decide +kernel
theorem dX11_give_66 : decode cX11_give 66 = .ok (.iload_n 2, 1) := by decide +kernel
theorem dX11_give_67 : decode cX11_give 67 = .ok (.dup2, 1) := by decide +kernel
theorem dX11_give_68 : decode cX11_give 68 = .ok (.iaload, 1) := by decide +kernel
theorem dX11_give_69 : decode cX11_give 69 = .ok (.iload_n 3, 1) := by decide +kernel
theorem dX11_give_70 : decode cX11_give 70 = .ok (.iadd, 1) := by decide +kernel
theorem dX11_give_71 : decode cX11_give 71 = .ok (.iastore, 1) := by decide +kernel
theorem dX11_give_72 : decode cX11_give 72 = .ok (.aload_n 0, 1) := by decide +kernel
theorem dX11_give_73 : decode cX11_give 73 = .ok (.getfield 49, 3) := by decide +kernel
theorem dX11_give_76 : decode cX11_give 76 = .ok (.aload_n 0, 1) := by decide +kernel
theorem dX11_give_77 : decode cX11_give 77 = .ok (.getfield 39, 3) := by decide +kernel
theorem dX11_give_80 : decode cX11_give 80 = .ok (.invokevirtual 179, 3) := by decide +kernel
theorem dX11_give_83 : decode cX11_give 83 = .ok (.aload_n 0, 1) := by decide +kernel
theorem dX11_give_84 : decode cX11_give 84 = .ok (.getfield 39, 3) := by decide +kernel
theorem dX11_give_87 : decode cX11_give 87 = .ok (.getfield 142, 3) := by decide +kernel
theorem dX11_give_90 : decode cX11_give 90 = .ok (.iload_n 2, 1) := by decide +kernel
theorem dX11_give_91 : decode cX11_give 91 = .ok (.iaload, 1) := by decide +kernel
theorem dX11_give_92 : decode cX11_give 92 = .ok (.ireturn, 1) := by decide +kernel
theorem dX11_areTwo_0 : decode cX11_areTwo 0 = .ok (.aload_n 0, 1) := by decide +kernel
theorem dX11_areTwo_1 : decode cX11_areTwo 1 = .ok (.getfield 29, 3) := by decide +kernel
theorem dX11_areTwo_4 : decode cX11_areTwo 4 = .ok (.iload_n 1, 1) := by decide +kernel
theorem dX11_areTwo_5 : decode cX11_areTwo 5 = .ok (.invokevirtual 119, 3) := by decide +kernel
theorem dX11_areTwo_8 : decode cX11_areTwo 8 = .ok (.ifCond .eq 23, 3) := by decide +kernel
theorem dX11_areTwo_11 : decode cX11_areTwo 11 = .ok (.aload_n 0, 1) := by decide +kernel
theorem dX11_areTwo_12 : decode cX11_areTwo 12 = .ok (.getfield 29, 3) := by decide +kernel
theorem dX11_areTwo_15 : decode cX11_areTwo 15 = .ok (.iload_n 2, 1) := by decide +kernel
theorem dX11_areTwo_16 : decode cX11_areTwo 16 = .ok (.invokevirtual 119, 3) := by decide +kernel
theorem dX11_areTwo_19 : decode cX11_areTwo 19 = .ok (.ifCond .eq 12, 3) := by decide +kernel
theorem dX11_areTwo_22 : decode cX11_areTwo 22 = .ok (.iload_n 1, 1) := by decide +kernel
theorem dX11_areTwo_23 : decode cX11_areTwo 23 = .ok (.iload_n 2, 1) := by decide +kernel
theorem dX11_areTwo_24 : decode cX11_areTwo 24 = .ok (.if_icmp .eq 7, 3) := by decide +kernel
theorem dX11_areTwo_27 : decode cX11_areTwo 27 = .ok (.iconst 1, 1) := by decide +kernel
theorem dX11_areTwo_28 : decode cX11_areTwo 28 = .ok (.goto 4, 3) := by decide +kernel
theorem dX11_areTwo_31 : decode cX11_areTwo 31 = .ok (.iconst 0, 1) := by decide +kernel
theorem dX11_areTwo_32 : decode cX11_areTwo 32 = .ok (.ireturn, 1) := by decide +kernel
theorem dX11_week_0 : decode cX11_week 0 = .ok (.aload_n 0, 1) := by decide +kernel
theorem dX11_week_1 : decode cX11_week 1 = .ok (.getfield 39, 3) := by decide +kernel
theorem dX11_week_4 : decode cX11_week 4 = .ok (.getfield 186, 3) := by decide +kernel
theorem dX11_week_7 : decode cX11_week 7 = .ok (.sipush 999, 3) := by decide +kernel
theorem dX11_week_10 : decode cX11_week 10 = .ok (.if_icmp .lt 5, 3) := by decide +kernel
theorem dX11_week_13 : decode cX11_week 13 = .ok (.iconst (-1), 1) := by decide +kernel
theorem dX11_week_14 : decode cX11_week 14 = .ok (.ireturn, 1) := by decide +kernel
theorem dX11_week_15 : decode cX11_week 15 = .ok (.aload_n 0, 1) := by decide +kernel
theorem dX11_week_16 : decode cX11_week 16 = .ok (.getfield 29, 3) := by decide +kernel
theorem dX11_week_19 : decode cX11_week 19 = .ok (.aload_n 0, 1) := by decide +kernel
theorem dX11_week_20 : decode cX11_week 20 = .ok (.getfield 39, 3) := by decide +kernel
theorem dX11_week_23 : decode cX11_week 23 = .ok (.invokevirtual 189, 3) := by decide +kernel
theorem dX11_week_26 : decode cX11_week 26 = .ok (.aload_n 0, 1) := by decide +kernel
theorem dX11_week_27 : decode cX11_week 27 = .ok (.getfield 49, 3) := by decide +kernel
theorem dX11_week_30 : decode cX11_week 30 = .ok (.aload_n 0, 1) := by decide +kernel
theorem dX11_week_31 : decode cX11_week 31 = .ok (.getfield 39, 3) := by decide +kernel
theorem dX11_week_34 : decode cX11_week 34 = .ok (.invokevirtual 179, 3) := by decide +kernel
theorem dX11_week_37 : decode cX11_week 37 = .ok (.aload_n 0, 1) := by decide +kernel
theorem dX11_week_38 : decode cX11_week 38 = .ok (.getfield 39, 3) := by decide +kernel
theorem dX11_week_41 : decode cX11_week 41 = .ok (.getfield 192, 3) := by decide +kernel
theorem dX11_week_44 : decode cX11_week 44 = .ok (.ireturn, 1) := by decide +kernel
theorem dX11_undo_0 : decode cX11_undo 0 = .ok (.aload_n 0, 1) := by decide +kernel
theorem dX11_undo_1 : decode cX11_undo 1 = .ok (.getfield 49, 3) := by decide +kernel
theorem dX11_undo_4 : decode cX11_undo 4 = .ok (.aload_n 0, 1) := by decide +kernel
theorem dX11_undo_5 : decode cX11_undo 5 = .ok (.getfield 39, 3) := by decide +kernel
theorem dX11_undo_8 : decode cX11_undo 8 = .ok (.invokevirtual 195, 3) := by decide +kernel
theorem dX11_undo_11 : decode cX11_undo 11 = .ok (.ireturn, 1) := by decide +kernel
theorem dX11_redo_0 : decode cX11_redo 0 = .ok (.aload_n 0, 1) := by decide +kernel
theorem dX11_redo_1 : decode cX11_redo 1 = .ok (.getfield 49, 3) := by decide +kernel
theorem dX11_redo_4 : decode cX11_redo 4 = .ok (.aload_n 0, 1) := by decide +kernel
theorem dX11_redo_5 : decode cX11_redo 5 = .ok (.getfield 39, 3) := by decide +kernel
theorem dX11_redo_8 : decode cX11_redo 8 = .ok (.invokevirtual 199, 3) := by decide +kernel
theorem dX11_redo_11 : decode cX11_redo 11 = .ok (.ireturn, 1) := by decide +kernel
theorem dX11_fewest_0 : decode cX11_fewest 0 = .ok (.aload_n 0, 1) := by decide +kernel
theorem dX11_fewest_1 : decode cX11_fewest 1 = .ok (.getfield 56, 3) := by decide +kernel
theorem dX11_fewest_4 : decode cX11_fewest 4 = .ok (.invokevirtual 109, 3) := by decide +kernel
theorem dX11_fewest_7 : decode cX11_fewest 7 = .ok (.aload_n 0, 1) := by decide +kernel
theorem dX11_fewest_8 : decode cX11_fewest 8 = .ok (.getfield 29, 3) := by decide +kernel
theorem dX11_fewest_11 : decode cX11_fewest 11 = .ok (.iload_n 1, 1) := by decide +kernel
theorem dX11_fewest_12 : decode cX11_fewest 12 = .ok (.invokevirtual 119, 3) := by decide +kernel
theorem dX11_fewest_15 : decode cX11_fewest 15 = .ok (.ifCond .ne 5, 3) := by decide +kernel
theorem dX11_fewest_18 : decode cX11_fewest 18 = .ok (.iconst (-1), 1) := by decide +kernel
theorem dX11_fewest_19 : decode cX11_fewest 19 = .ok (.ireturn, 1) := by decide +kernel
theorem dX11_fewest_20 : decode cX11_fewest 20 = .ok (.aload_n 0, 1) := by decide +kernel
theorem dX11_fewest_21 : decode cX11_fewest 21 = .ok (.getfield 77, 3) := by decide +kernel
theorem dX11_fewest_24 : decode cX11_fewest 24 = .ok (.aload_n 0, 1) := by decide +kernel
theorem dX11_fewest_25 : decode cX11_fewest 25 = .ok (.getfield 29, 3) := by decide +kernel
theorem dX11_fewest_28 : decode cX11_fewest 28 = .ok (.aload_n 0, 1) := by decide +kernel
theorem dX11_fewest_29 : decode cX11_fewest 29 = .ok (.getfield 39, 3) := by decide +kernel
theorem dX11_fewest_32 : decode cX11_fewest 32 = .ok (.iload_n 1, 1) := by decide +kernel
theorem dX11_fewest_33 : decode cX11_fewest 33 = .ok (.aload_n 0, 1) := by decide +kernel
theorem dX11_fewest_34 : decode cX11_fewest 34 = .ok (.getfield 56, 3) := by decide +kernel
theorem dX11_fewest_37 : decode cX11_fewest 37 = .ok (.invokevirtual 202, 3) := by decide +kernel
theorem dX11_fewest_40 : decode cX11_fewest 40 = .ok (.ireturn, 1) := by decide +kernel
theorem dX11_ladder_0 : decode cX11_ladder 0 = .ok (.aload_n 0, 1) := by decide +kernel
theorem dX11_ladder_1 : decode cX11_ladder 1 = .ok (.getfield 29, 3) := by decide +kernel
theorem dX11_ladder_4 : decode cX11_ladder 4 = .ok (.iload_n 1, 1) := by decide +kernel
theorem dX11_ladder_5 : decode cX11_ladder 5 = .ok (.invokevirtual 119, 3) := by decide +kernel
theorem dX11_ladder_8 : decode cX11_ladder 8 = .ok (.ifCond .ne 5, 3) := by decide +kernel
theorem dX11_ladder_11 : decode cX11_ladder 11 = .ok (.iconst (-1), 1) := by decide +kernel
theorem dX11_ladder_12 : decode cX11_ladder 12 = .ok (.ireturn, 1) := by decide +kernel
theorem dX11_ladder_13 : decode cX11_ladder 13 = .ok (.aload_n 0, 1) := by decide +kernel
theorem dX11_ladder_14 : decode cX11_ladder 14 = .ok (.getfield 77, 3) := by decide +kernel
theorem dX11_ladder_17 : decode cX11_ladder 17 = .ok (.aload_n 0, 1) := by decide +kernel
theorem dX11_ladder_18 : decode cX11_ladder 18 = .ok (.getfield 29, 3) := by decide +kernel
theorem dX11_ladder_21 : decode cX11_ladder 21 = .ok (.aload_n 0, 1) := by decide +kernel
theorem dX11_ladder_22 : decode cX11_ladder 22 = .ok (.getfield 39, 3) := by decide +kernel
theorem dX11_ladder_25 : decode cX11_ladder 25 = .ok (.iload_n 1, 1) := by decide +kernel
theorem dX11_ladder_26 : decode cX11_ladder 26 = .ok (.invokevirtual 206, 3) := by decide +kernel
theorem dX11_ladder_29 : decode cX11_ladder 29 = .ok (.ireturn, 1) := by decide +kernel
theorem dX11_carries_0 : decode cX11_carries 0 = .ok (.aload_n 0, 1) := by decide +kernel
theorem dX11_carries_1 : decode cX11_carries 1 = .ok (.iload_n 1, 1) := by decide +kernel
theorem dX11_carries_2 : decode cX11_carries 2 = .ok (.iload_n 2, 1) := by decide +kernel
theorem dX11_carries_3 : decode cX11_carries 3 = .ok (.invokevirtual 182, 3) := by decide +kernel
theorem dX11_carries_6 : decode cX11_carries 6 = .ok (.ifCond .ne 5, 3) := by decide +kernel
theorem dX11_carries_9 : decode cX11_carries 9 = .ok (.iconst (-1), 1) := by decide +kernel
theorem dX11_carries_10 : decode cX11_carries 10 = .ok (.ireturn, 1) := by decide +kernel
theorem dX11_carries_11 : decode cX11_carries 11 = .ok (.iconst 0, 1) := by decide +kernel
theorem dX11_carries_12 : decode cX11_carries 12 = .ok (.istore_n 3, 1) := by decide +kernel
theorem dX11_carries_13 : decode cX11_carries 13 = .ok (.iconst 1, 1) := by decide +kernel
theorem dX11_carries_14 : decode cX11_carries 14 = .ok (.istore 4, 2) := by decide +kernel
theorem dX11_carries_16 : decode cX11_carries 16 = .ok (.iload 4, 2) := by decide +kernel
theorem dX11_carries_18 : decode cX11_carries 18 = .ok (.aload_n 0, 1) := by decide +kernel
theorem dX11_carries_19 : decode cX11_carries 19 = .ok (.getfield 29, 3) := by decide +kernel
theorem dX11_carries_22 : decode cX11_carries 22 = .ok (.getfield 210, 3) := by decide +kernel
theorem dX11_carries_25 : decode cX11_carries 25 = .ok (.if_icmp .gt 42, 3) := by decide +kernel
theorem dX11_carries_28 : decode cX11_carries 28 = .ok (.aload_n 0, 1) := by decide +kernel
theorem dX11_carries_29 : decode cX11_carries 29 = .ok (.getfield 29, 3) := by decide +kernel
theorem dX11_carries_32 : decode cX11_carries 32 = .ok (.iload 4, 2) := by decide +kernel
theorem dX11_carries_34 : decode cX11_carries 34 = .ok (.aload_n 0, 1) := by decide +kernel
theorem dX11_carries_35 : decode cX11_carries 35 = .ok (.getfield 29, 3) := by decide +kernel
theorem dX11_carries_38 : decode cX11_carries 38 = .ok (.getfield 130, 3) := by decide +kernel
theorem dX11_carries_41 : decode cX11_carries 41 = .ok (.iload_n 2, 1) := by decide +kernel
theorem dX11_carries_42 : decode cX11_carries 42 = .ok (.iaload, 1) := by decide +kernel
theorem dX11_carries_43 : decode cX11_carries 43 = .ok (.invokevirtual 167, 3) := by decide +kernel
theorem dX11_carries_46 : decode cX11_carries 46 = .ok (.aload_n 0, 1) := by decide +kernel
theorem dX11_carries_47 : decode cX11_carries 47 = .ok (.getfield 39, 3) := by decide +kernel
theorem dX11_carries_50 : decode cX11_carries 50 = .ok (.getfield 139, 3) := by decide +kernel
theorem dX11_carries_53 : decode cX11_carries 53 = .ok (.iload_n 1, 1) := by decide +kernel
theorem dX11_carries_54 : decode cX11_carries 54 = .ok (.iaload, 1) := by decide +kernel
theorem dX11_carries_55 : decode cX11_carries 55 = .ok (.if_icmp .gt 6, 3) := by decide +kernel
theorem dX11_carries_58 : decode cX11_carries 58 = .ok (.iload 4, 2) := by decide +kernel
theorem dX11_carries_60 : decode cX11_carries 60 = .ok (.istore_n 3, 1) := by decide +kernel
theorem dX11_carries_61 : decode cX11_carries 61 = .ok (.iinc 4 1, 3) := by decide +kernel
theorem dX11_carries_64 : decode cX11_carries 64 = .ok (.goto (-48), 3) := by decide +kernel
theorem dX11_carries_67 : decode cX11_carries 67 = .ok (.iload_n 3, 1) := by decide +kernel
theorem dX11_carries_68 : decode cX11_carries 68 = .ok (.ireturn, 1) := by decide +kernel
theorem dX11_envies_0 : decode cX11_envies 0 = .ok (.aload_n 0, 1) := by decide +kernel
theorem dX11_envies_1 : decode cX11_envies 1 = .ok (.getfield 29, 3) := by decide +kernel
theorem dX11_envies_4 : decode cX11_envies 4 = .ok (.iload_n 1, 1) := by decide +kernel
theorem dX11_envies_5 : decode cX11_envies 5 = .ok (.invokevirtual 119, 3) := by decide +kernel
theorem dX11_envies_8 : decode cX11_envies 8 = .ok (.ifCond .ne 5, 3) := by decide +kernel
theorem dX11_envies_11 : decode cX11_envies 11 = .ok (.iconst (-1), 1) := by decide +kernel
theorem dX11_envies_12 : decode cX11_envies 12 = .ok (.ireturn, 1) := by decide +kernel
theorem dX11_envies_13 : decode cX11_envies 13 = .ok (.iconst 0, 1) := by decide +kernel
theorem dX11_envies_14 : decode cX11_envies 14 = .ok (.istore_n 2, 1) := by decide +kernel
theorem dX11_envies_15 : decode cX11_envies 15 = .ok (.iconst 0, 1) := by decide +kernel
theorem dX11_envies_16 : decode cX11_envies 16 = .ok (.istore_n 3, 1) := by decide +kernel
theorem dX11_envies_17 : decode cX11_envies 17 = .ok (.iload_n 3, 1) := by decide +kernel
theorem dX11_envies_18 : decode cX11_envies 18 = .ok (.aload_n 0, 1) := by decide +kernel
theorem dX11_envies_19 : decode cX11_envies 19 = .ok (.getfield 29, 3) := by decide +kernel
theorem dX11_envies_22 : decode cX11_envies 22 = .ok (.getfield 110, 3) := by decide +kernel
theorem dX11_envies_25 : decode cX11_envies 25 = .ok (.if_icmp .ge 45, 3) := by decide +kernel
theorem dX11_envies_28 : decode cX11_envies 28 = .ok (.aload_n 0, 1) := by decide +kernel
theorem dX11_envies_29 : decode cX11_envies 29 = .ok (.getfield 29, 3) := by decide +kernel
theorem dX11_envies_32 : decode cX11_envies 32 = .ok (.iload_n 1, 1) := by decide +kernel
theorem dX11_envies_33 : decode cX11_envies 33 = .ok (.aload_n 0, 1) := by decide +kernel
theorem dX11_envies_34 : decode cX11_envies 34 = .ok (.getfield 29, 3) := by decide +kernel
theorem dX11_envies_37 : decode cX11_envies 37 = .ok (.getfield 123, 3) := by decide +kernel
theorem dX11_envies_40 : decode cX11_envies 40 = .ok (.iload_n 1, 1) := by decide +kernel
theorem dX11_envies_41 : decode cX11_envies 41 = .ok (.iaload, 1) := by decide +kernel
theorem dX11_envies_42 : decode cX11_envies 42 = .ok (.iload_n 3, 1) := by decide +kernel
theorem dX11_envies_43 : decode cX11_envies 43 = .ok (.aload_n 0, 1) := by decide +kernel
theorem dX11_envies_44 : decode cX11_envies 44 = .ok (.getfield 29, 3) := by decide +kernel
theorem dX11_envies_47 : decode cX11_envies 47 = .ok (.getfield 123, 3) := by decide +kernel
theorem dX11_envies_50 : decode cX11_envies 50 = .ok (.iload_n 3, 1) := by decide +kernel
theorem dX11_envies_51 : decode cX11_envies 51 = .ok (.iaload, 1) := by decide +kernel
theorem dX11_envies_52 : decode cX11_envies 52 = .ok (.invokevirtual 213, 3) := by decide +kernel
theorem dX11_envies_55 : decode cX11_envies 55 = .ok (.ifCond .eq 9, 3) := by decide +kernel
theorem dX11_envies_58 : decode cX11_envies 58 = .ok (.iload_n 2, 1) := by decide +kernel
theorem dX11_envies_59 : decode cX11_envies 59 = .ok (.iconst 1, 1) := by decide +kernel
theorem dX11_envies_60 : decode cX11_envies 60 = .ok (.iload_n 3, 1) := by decide +kernel
theorem dX11_envies_61 : decode cX11_envies 61 = .ok (.ishl, 1) := by decide +kernel
theorem dX11_envies_62 : decode cX11_envies 62 = .ok (.ior, 1) := by decide +kernel
theorem dX11_envies_63 : decode cX11_envies 63 = .ok (.istore_n 2, 1) := by decide +kernel
theorem dX11_envies_64 : decode cX11_envies 64 = .ok (.iinc 3 1, 3) := by decide +kernel
theorem dX11_envies_67 : decode cX11_envies 67 = .ok (.goto (-50), 3) := by decide +kernel
theorem dX11_envies_70 : decode cX11_envies 70 = .ok (.iload_n 2, 1) := by decide +kernel
theorem dX11_envies_71 : decode cX11_envies 71 = .ok (.ireturn, 1) := by decide +kernel
theorem dX11_month_0 : decode cX11_month 0 = .ok (.aload_n 0, 1) := by decide +kernel
theorem dX11_month_1 : decode cX11_month 1 = .ok (.getfield 29, 3) := by decide +kernel
theorem dX11_month_4 : decode cX11_month 4 = .ok (.iload_n 1, 1) := by decide +kernel
theorem dX11_month_5 : decode cX11_month 5 = .ok (.invokevirtual 119, 3) := by decide +kernel
theorem dX11_month_8 : decode cX11_month 8 = .ok (.ifCond .eq 14, 3) := by decide +kernel
theorem dX11_month_11 : decode cX11_month 11 = .ok (.aload_n 0, 1) := by decide +kernel
theorem dX11_month_12 : decode cX11_month 12 = .ok (.getfield 29, 3) := by decide +kernel
theorem dX11_month_15 : decode cX11_month 15 = .ok (.iload_n 1, 1) := by decide +kernel
theorem dX11_month_16 : decode cX11_month 16 = .ok (.invokevirtual 217, 3) := by decide +kernel
theorem dX11_month_19 : decode cX11_month 19 = .ok (.goto 4, 3) := by decide +kernel
theorem dX11_month_22 : decode cX11_month 22 = .ok (.iconst (-1), 1) := by decide +kernel
theorem dX11_month_23 : decode cX11_month 23 = .ok (.ireturn, 1) := by decide +kernel
theorem dX11_odds_0 : decode cX11_odds 0 = .ok (.aload_n 0, 1) := by decide +kernel
theorem dX11_odds_1 : decode cX11_odds 1 = .ok (.getfield 29, 3) := by decide +kernel
theorem dX11_odds_4 : decode cX11_odds 4 = .ok (.iload_n 1, 1) := by decide +kernel
theorem dX11_odds_5 : decode cX11_odds 5 = .ok (.invokevirtual 119, 3) := by decide +kernel
theorem dX11_odds_8 : decode cX11_odds 8 = .ok (.ifCond .eq 32, 3) := by decide +kernel
theorem dX11_odds_11 : decode cX11_odds 11 = .ok (.iload_n 2, 1) := by decide +kernel
theorem dX11_odds_12 : decode cX11_odds 12 = .ok (.ifCond .lt 28, 3) := by decide +kernel
theorem dX11_odds_15 : decode cX11_odds 15 = .ok (.iload_n 2, 1) := by decide +kernel
theorem dX11_odds_16 : decode cX11_odds 16 = .ok (.iconst 4, 1) := by decide +kernel
theorem dX11_odds_17 : decode cX11_odds 17 = .ok (.if_icmp .gt 23, 3) := by decide +kernel
theorem dX11_odds_20 : decode cX11_odds 20 = .ok (.iload_n 3, 1) := by decide +kernel
theorem dX11_odds_21 : decode cX11_odds 21 = .ok (.ifCond .lt 19, 3) := by decide +kernel
theorem dX11_odds_24 : decode cX11_odds 24 = .ok (.iload_n 3, 1) := by decide +kernel
theorem dX11_odds_25 : decode cX11_odds 25 = .ok (.iload_n 2, 1) := by decide +kernel
theorem dX11_odds_26 : decode cX11_odds 26 = .ok (.if_icmp .gt 14, 3) := by decide +kernel
theorem dX11_odds_29 : decode cX11_odds 29 = .ok (.iload 4, 2) := by decide +kernel
theorem dX11_odds_31 : decode cX11_odds 31 = .ok (.ifCond .lt 9, 3) := by decide +kernel
theorem dX11_odds_34 : decode cX11_odds 34 = .ok (.iload 4, 2) := by decide +kernel
theorem dX11_odds_36 : decode cX11_odds 36 = .ok (.iconst 1, 1) := by decide +kernel
theorem dX11_odds_37 : decode cX11_odds 37 = .ok (.if_icmp .le 5, 3) := by decide +kernel
theorem dX11_odds_40 : decode cX11_odds 40 = .ok (.iconst (-1), 1) := by decide +kernel
theorem dX11_odds_41 : decode cX11_odds 41 = .ok (.ireturn, 1) := by decide +kernel
theorem dX11_odds_42 : decode cX11_odds 42 = .ok (.aload_n 0, 1) := by decide +kernel
theorem dX11_odds_43 : decode cX11_odds 43 = .ok (.getfield 29, 3) := by decide +kernel
theorem dX11_odds_46 : decode cX11_odds 46 = .ok (.getfield 136, 3) := by decide +kernel
theorem dX11_odds_49 : decode cX11_odds 49 = .ok (.iload_n 1, 1) := by decide +kernel
theorem dX11_odds_50 : decode cX11_odds 50 = .ok (.iaload, 1) := by decide +kernel
theorem dX11_odds_51 : decode cX11_odds 51 = .ok (.istore 5, 2) := by decide +kernel
theorem dX11_odds_53 : decode cX11_odds 53 = .ok (.iconst 0, 1) := by decide +kernel
theorem dX11_odds_54 : decode cX11_odds 54 = .ok (.istore 6, 2) := by decide +kernel
theorem dX11_odds_56 : decode cX11_odds 56 = .ok (.iload_n 3, 1) := by decide +kernel
theorem dX11_odds_57 : decode cX11_odds 57 = .ok (.istore 7, 2) := by decide +kernel
theorem dX11_odds_59 : decode cX11_odds 59 = .ok (.iload 7, 2) := by decide +kernel
theorem dX11_odds_61 : decode cX11_odds 61 = .ok (.iload_n 2, 1) := by decide +kernel
theorem dX11_odds_62 : decode cX11_odds 62 = .ok (.if_icmp .gt 41, 3) := by decide +kernel
theorem dX11_odds_65 : decode cX11_odds 65 = .ok (.iload 6, 2) := by decide +kernel
theorem dX11_odds_67 : decode cX11_odds 67 = .ok (.iload_n 2, 1) := by decide +kernel
theorem dX11_odds_68 : decode cX11_odds 68 = .ok (.iload 7, 2) := by decide +kernel
theorem dX11_odds_70 : decode cX11_odds 70 = .ok (.invokestatic 220, 3) := by decide +kernel
theorem dX11_odds_73 : decode cX11_odds 73 = .ok (.bipush 100, 2) := by decide +kernel
theorem dX11_odds_75 : decode cX11_odds 75 = .ok (.iload 5, 2) := by decide +kernel
theorem dX11_odds_77 : decode cX11_odds 77 = .ok (.isub, 1) := by decide +kernel
theorem dX11_odds_78 : decode cX11_odds 78 = .ok (.iload 7, 2) := by decide +kernel
theorem dX11_odds_80 : decode cX11_odds 80 = .ok (.invokestatic 223, 3) := by decide +kernel
theorem dX11_odds_83 : decode cX11_odds 83 = .ok (.imul, 1) := by decide +kernel
theorem dX11_odds_84 : decode cX11_odds 84 = .ok (.iload 5, 2) := by decide +kernel
theorem dX11_odds_86 : decode cX11_odds 86 = .ok (.iload_n 2, 1) := by decide +kernel
theorem dX11_odds_87 : decode cX11_odds 87 = .ok (.iload 7, 2) := by decide +kernel
theorem dX11_odds_89 : decode cX11_odds 89 = .ok (.isub, 1) := by decide +kernel
theorem dX11_odds_90 : decode cX11_odds 90 = .ok (.invokestatic 223, 3) := by decide +kernel
theorem dX11_odds_93 : decode cX11_odds 93 = .ok (.imul, 1) := by decide +kernel
theorem dX11_odds_94 : decode cX11_odds 94 = .ok (.iadd, 1) := by decide +kernel
theorem dX11_odds_95 : decode cX11_odds 95 = .ok (.istore 6, 2) := by decide +kernel
theorem dX11_odds_97 : decode cX11_odds 97 = .ok (.iinc 7 1, 3) := by decide +kernel
theorem dX11_odds_100 : decode cX11_odds 100 = .ok (.goto (-41), 3) := by decide +kernel
theorem dX11_odds_103 : decode cX11_odds 103 = .ok (.bipush 100, 2) := by decide +kernel
theorem dX11_odds_105 : decode cX11_odds 105 = .ok (.iload_n 2, 1) := by decide +kernel
theorem dX11_odds_106 : decode cX11_odds 106 = .ok (.invokestatic 223, 3) := by decide +kernel
theorem dX11_odds_109 : decode cX11_odds 109 = .ok (.istore 7, 2) := by decide +kernel
theorem dX11_odds_111 : decode cX11_odds 111 = .ok (.iload 6, 2) := by decide +kernel
theorem dX11_odds_113 : decode cX11_odds 113 = .ok (.iload 7, 2) := by decide +kernel
theorem dX11_odds_115 : decode cX11_odds 115 = .ok (.invokestatic 226, 3) := by decide +kernel
theorem dX11_odds_118 : decode cX11_odds 118 = .ok (.istore 8, 2) := by decide +kernel
theorem dX11_odds_120 : decode cX11_odds 120 = .ok (.iload 8, 2) := by decide +kernel
theorem dX11_odds_122 : decode cX11_odds 122 = .ok (.ifCond .ne 5, 3) := by decide +kernel
theorem dX11_odds_125 : decode cX11_odds 125 = .ok (.iconst (-1), 1) := by decide +kernel
theorem dX11_odds_126 : decode cX11_odds 126 = .ok (.ireturn, 1) := by decide +kernel
theorem dX11_odds_127 : decode cX11_odds 127 = .ok (.iload 4, 2) := by decide +kernel
theorem dX11_odds_129 : decode cX11_odds 129 = .ok (.ifCond .ne 11, 3) := by decide +kernel
theorem dX11_odds_132 : decode cX11_odds 132 = .ok (.iload 6, 2) := by decide +kernel
theorem dX11_odds_134 : decode cX11_odds 134 = .ok (.iload 8, 2) := by decide +kernel
theorem dX11_odds_136 : decode cX11_odds 136 = .ok (.idiv, 1) := by decide +kernel
theorem dX11_odds_137 : decode cX11_odds 137 = .ok (.goto 8, 3) := by decide +kernel
theorem dX11_odds_140 : decode cX11_odds 140 = .ok (.iload 7, 2) := by decide +kernel
theorem dX11_odds_142 : decode cX11_odds 142 = .ok (.iload 8, 2) := by decide +kernel
theorem dX11_odds_144 : decode cX11_odds 144 = .ok (.idiv, 1) := by decide +kernel
theorem dX11_odds_145 : decode cX11_odds 145 = .ok (.ireturn, 1) := by decide +kernel
theorem dX11_ways_0 : decode cX11_ways 0 = .ok (.iconst 1, 1) := by decide +kernel
theorem dX11_ways_1 : decode cX11_ways 1 = .ok (.istore_n 2, 1) := by decide +kernel
theorem dX11_ways_2 : decode cX11_ways 2 = .ok (.iconst 0, 1) := by decide +kernel
theorem dX11_ways_3 : decode cX11_ways 3 = .ok (.istore_n 3, 1) := by decide +kernel
theorem dX11_ways_4 : decode cX11_ways 4 = .ok (.iload_n 3, 1) := by decide +kernel
theorem dX11_ways_5 : decode cX11_ways 5 = .ok (.iload_n 1, 1) := by decide +kernel
theorem dX11_ways_6 : decode cX11_ways 6 = .ok (.if_icmp .ge 19, 3) := by decide +kernel
theorem dX11_ways_9 : decode cX11_ways 9 = .ok (.iload_n 2, 1) := by decide +kernel
theorem dX11_ways_10 : decode cX11_ways 10 = .ok (.iload_n 0, 1) := by decide +kernel
theorem dX11_ways_11 : decode cX11_ways 11 = .ok (.iload_n 3, 1) := by decide +kernel
theorem dX11_ways_12 : decode cX11_ways 12 = .ok (.isub, 1) := by decide +kernel
theorem dX11_ways_13 : decode cX11_ways 13 = .ok (.imul, 1) := by decide +kernel
theorem dX11_ways_14 : decode cX11_ways 14 = .ok (.iload_n 3, 1) := by decide +kernel
theorem dX11_ways_15 : decode cX11_ways 15 = .ok (.iconst 1, 1) := by decide +kernel
theorem dX11_ways_16 : decode cX11_ways 16 = .ok (.iadd, 1) := by decide +kernel
theorem dX11_ways_17 : decode cX11_ways 17 = .ok (.idiv, 1) := by decide +kernel
theorem dX11_ways_18 : decode cX11_ways 18 = .ok (.istore_n 2, 1) := by decide +kernel
theorem dX11_ways_19 : decode cX11_ways 19 = .ok (.iinc 3 1, 3) := by decide +kernel
theorem dX11_ways_22 : decode cX11_ways 22 = .ok (.goto (-18), 3) := by decide +kernel
theorem dX11_ways_25 : decode cX11_ways 25 = .ok (.iload_n 2, 1) := by decide +kernel
theorem dX11_ways_26 : decode cX11_ways 26 = .ok (.ireturn, 1) := by decide +kernel
theorem dX11_power_0 : decode cX11_power 0 = .ok (.iconst 1, 1) := by decide +kernel
theorem dX11_power_1 : decode cX11_power 1 = .ok (.istore_n 2, 1) := by decide +kernel
theorem dX11_power_2 : decode cX11_power 2 = .ok (.iconst 0, 1) := by decide +kernel
theorem dX11_power_3 : decode cX11_power 3 = .ok (.istore_n 3, 1) := by decide +kernel
theorem dX11_power_4 : decode cX11_power 4 = .ok (.iload_n 3, 1) := by decide +kernel
theorem dX11_power_5 : decode cX11_power 5 = .ok (.iload_n 1, 1) := by decide +kernel
theorem dX11_power_6 : decode cX11_power 6 = .ok (.if_icmp .ge 13, 3) := by decide +kernel
theorem dX11_power_9 : decode cX11_power 9 = .ok (.iload_n 2, 1) := by decide +kernel
theorem dX11_power_10 : decode cX11_power 10 = .ok (.iload_n 0, 1) := by decide +kernel
theorem dX11_power_11 : decode cX11_power 11 = .ok (.imul, 1) := by decide +kernel
theorem dX11_power_12 : decode cX11_power 12 = .ok (.istore_n 2, 1) := by decide +kernel
theorem dX11_power_13 : decode cX11_power 13 = .ok (.iinc 3 1, 3) := by decide +kernel
theorem dX11_power_16 : decode cX11_power 16 = .ok (.goto (-12), 3) := by decide +kernel
theorem dX11_power_19 : decode cX11_power 19 = .ok (.iload_n 2, 1) := by decide +kernel
theorem dX11_power_20 : decode cX11_power 20 = .ok (.ireturn, 1) := by decide +kernel
theorem dX11_commonDivisor_0 : decode cX11_commonDivisor 0 = .ok (.iload_n 0, 1) := by decide +kernel
theorem dX11_commonDivisor_1 : decode cX11_commonDivisor 1 = .ok (.istore_n 2, 1) := by decide +kernel
theorem dX11_commonDivisor_2 : decode cX11_commonDivisor 2 = .ok (.iload_n 1, 1) := by decide +kernel
theorem dX11_commonDivisor_3 : decode cX11_commonDivisor 3 = .ok (.istore_n 3, 1) := by decide +kernel
theorem dX11_commonDivisor_4 : decode cX11_commonDivisor 4 = .ok (.iconst 0, 1) := by decide +kernel
theorem dX11_commonDivisor_5 : decode cX11_commonDivisor 5 = .ok (.istore 4, 2) := by decide +kernel
theorem dX11_commonDivisor_7 : decode cX11_commonDivisor 7 = .ok (.iload 4, 2) := by decide +kernel
theorem dX11_commonDivisor_9 : decode cX11_commonDivisor 9 = .ok (.bipush 100, 2) := by decide +kernel
theorem dX11_commonDivisor_11 : decode cX11_commonDivisor 11 = .ok (.if_icmp .ge 23, 3) := by decide +kernel
theorem dX11_commonDivisor_14 : decode cX11_commonDivisor 14 = .ok (.iload_n 3, 1) := by decide +kernel
theorem dX11_commonDivisor_15 : decode cX11_commonDivisor 15 = .ok (.ifCond .eq 19, 3) := by decide +kernel
theorem dX11_commonDivisor_18 : decode cX11_commonDivisor 18 = .ok (.iload_n 2, 1) := by decide +kernel
theorem dX11_commonDivisor_19 : decode cX11_commonDivisor 19 = .ok (.iload_n 3, 1) := by decide +kernel
theorem dX11_commonDivisor_20 : decode cX11_commonDivisor 20 = .ok (.irem, 1) := by decide +kernel
theorem dX11_commonDivisor_21 : decode cX11_commonDivisor 21 = .ok (.istore 5, 2) := by decide +kernel
theorem dX11_commonDivisor_23 : decode cX11_commonDivisor 23 = .ok (.iload_n 3, 1) := by decide +kernel
theorem dX11_commonDivisor_24 : decode cX11_commonDivisor 24 = .ok (.istore_n 2, 1) := by decide +kernel
theorem dX11_commonDivisor_25 : decode cX11_commonDivisor 25 = .ok (.iload 5, 2) := by decide +kernel
theorem dX11_commonDivisor_27 : decode cX11_commonDivisor 27 = .ok (.istore_n 3, 1) := by decide +kernel
theorem dX11_commonDivisor_28 : decode cX11_commonDivisor 28 = .ok (.iinc 4 1, 3) := by decide +kernel
theorem dX11_commonDivisor_31 : decode cX11_commonDivisor 31 = .ok (.goto (-24), 3) := by decide +kernel
theorem dX11_commonDivisor_34 : decode cX11_commonDivisor 34 = .ok (.iload_n 2, 1) := by decide +kernel
theorem dX11_commonDivisor_35 : decode cX11_commonDivisor 35 = .ok (.ireturn, 1) := by decide +kernel
theorem dX11_stride_0 : decode cX11_stride 0 = .ok (.aload_n 0, 1) := by decide +kernel
theorem dX11_stride_1 : decode cX11_stride 1 = .ok (.getfield 29, 3) := by decide +kernel
theorem dX11_stride_4 : decode cX11_stride 4 = .ok (.iload_n 1, 1) := by decide +kernel
theorem dX11_stride_5 : decode cX11_stride 5 = .ok (.invokevirtual 119, 3) := by decide +kernel
theorem dX11_stride_8 : decode cX11_stride 8 = .ok (.ifCond .eq 12, 3) := by decide +kernel
theorem dX11_stride_11 : decode cX11_stride 11 = .ok (.iload_n 2, 1) := by decide +kernel
theorem dX11_stride_12 : decode cX11_stride 12 = .ok (.ifCond .eq 10, 3) := by decide +kernel
theorem dX11_stride_15 : decode cX11_stride 15 = .ok (.iload_n 2, 1) := by decide +kernel
theorem dX11_stride_16 : decode cX11_stride 16 = .ok (.iconst 1, 1) := by decide +kernel
theorem dX11_stride_17 : decode cX11_stride 17 = .ok (.if_icmp .eq 5, 3) := by decide +kernel
theorem dX11_stride_20 : decode cX11_stride 20 = .ok (.iconst (-1), 1) := by decide +kernel
theorem dX11_stride_21 : decode cX11_stride 21 = .ok (.ireturn, 1) := by decide +kernel
theorem dX11_stride_22 : decode cX11_stride 22 = .ok (.iconst (-1), 1) := by decide +kernel
theorem dX11_stride_23 : decode cX11_stride 23 = .ok (.istore_n 3, 1) := by decide +kernel
theorem dX11_stride_24 : decode cX11_stride 24 = .ok (.iconst 0, 1) := by decide +kernel
theorem dX11_stride_25 : decode cX11_stride 25 = .ok (.istore 4, 2) := by decide +kernel
theorem dX11_stride_27 : decode cX11_stride 27 = .ok (.iconst 1, 1) := by decide +kernel
theorem dX11_stride_28 : decode cX11_stride 28 = .ok (.istore 5, 2) := by decide +kernel
theorem dX11_stride_30 : decode cX11_stride 30 = .ok (.iload 5, 2) := by decide +kernel
theorem dX11_stride_32 : decode cX11_stride 32 = .ok (.aload_n 0, 1) := by decide +kernel
theorem dX11_stride_33 : decode cX11_stride 33 = .ok (.getfield 29, 3) := by decide +kernel
theorem dX11_stride_36 : decode cX11_stride 36 = .ok (.getfield 210, 3) := by decide +kernel
theorem dX11_stride_39 : decode cX11_stride 39 = .ok (.if_icmp .gt 79, 3) := by decide +kernel
theorem dX11_stride_42 : decode cX11_stride 42 = .ok (.aload_n 0, 1) := by decide +kernel
theorem dX11_stride_43 : decode cX11_stride 43 = .ok (.getfield 29, 3) := by decide +kernel
theorem dX11_stride_46 : decode cX11_stride 46 = .ok (.iload 5, 2) := by decide +kernel
theorem dX11_stride_48 : decode cX11_stride 48 = .ok (.iconst 0, 1) := by decide +kernel
theorem dX11_stride_49 : decode cX11_stride 49 = .ok (.invokevirtual 167, 3) := by decide +kernel
theorem dX11_stride_52 : decode cX11_stride 52 = .ok (.aload_n 0, 1) := by decide +kernel
theorem dX11_stride_53 : decode cX11_stride 53 = .ok (.getfield 39, 3) := by decide +kernel
theorem dX11_stride_56 : decode cX11_stride 56 = .ok (.getfield 139, 3) := by decide +kernel
theorem dX11_stride_59 : decode cX11_stride 59 = .ok (.iload_n 1, 1) := by decide +kernel
theorem dX11_stride_60 : decode cX11_stride 60 = .ok (.iaload, 1) := by decide +kernel
theorem dX11_stride_61 : decode cX11_stride 61 = .ok (.if_icmp .gt 51, 3) := by decide +kernel
theorem dX11_stride_64 : decode cX11_stride 64 = .ok (.aload_n 0, 1) := by decide +kernel
theorem dX11_stride_65 : decode cX11_stride 65 = .ok (.getfield 29, 3) := by decide +kernel
theorem dX11_stride_68 : decode cX11_stride 68 = .ok (.aload_n 0, 1) := by decide +kernel
theorem dX11_stride_69 : decode cX11_stride 69 = .ok (.getfield 39, 3) := by decide +kernel
theorem dX11_stride_72 : decode cX11_stride 72 = .ok (.iload 5, 2) := by decide +kernel
theorem dX11_stride_74 : decode cX11_stride 74 = .ok (.iconst 0, 1) := by decide +kernel
theorem dX11_stride_75 : decode cX11_stride 75 = .ok (.iload_n 2, 1) := by decide +kernel
theorem dX11_stride_76 : decode cX11_stride 76 = .ok (.aload_n 0, 1) := by decide +kernel
theorem dX11_stride_77 : decode cX11_stride 77 = .ok (.getfield 39, 3) := by decide +kernel
theorem dX11_stride_80 : decode cX11_stride 80 = .ok (.getfield 160, 3) := by decide +kernel
theorem dX11_stride_83 : decode cX11_stride 83 = .ok (.invokevirtual 163, 3) := by decide +kernel
theorem dX11_stride_86 : decode cX11_stride 86 = .ok (.istore 6, 2) := by decide +kernel
theorem dX11_stride_88 : decode cX11_stride 88 = .ok (.iload_n 3, 1) := by decide +kernel
theorem dX11_stride_89 : decode cX11_stride 89 = .ok (.iconst (-1), 1) := by decide +kernel
theorem dX11_stride_90 : decode cX11_stride 90 = .ok (.if_icmp .eq 15, 3) := by decide +kernel
theorem dX11_stride_93 : decode cX11_stride 93 = .ok (.iload 6, 2) := by decide +kernel
theorem dX11_stride_95 : decode cX11_stride 95 = .ok (.iload_n 3, 1) := by decide +kernel
theorem dX11_stride_96 : decode cX11_stride 96 = .ok (.imul, 1) := by decide +kernel
theorem dX11_stride_97 : decode cX11_stride 97 = .ok (.iload 4, 2) := by decide +kernel
theorem dX11_stride_99 : decode cX11_stride 99 = .ok (.iload 5, 2) := by decide +kernel
theorem dX11_stride_101 : decode cX11_stride 101 = .ok (.imul, 1) := by decide +kernel
theorem dX11_stride_102 : decode cX11_stride 102 = .ok (.if_icmp .le 10, 3) := by decide +kernel
theorem dX11_stride_105 : decode cX11_stride 105 = .ok (.iload 5, 2) := by decide +kernel
theorem dX11_stride_107 : decode cX11_stride 107 = .ok (.istore_n 3, 1) := by decide +kernel
theorem dX11_stride_108 : decode cX11_stride 108 = .ok (.iload 6, 2) := by decide +kernel
theorem dX11_stride_110 : decode cX11_stride 110 = .ok (.istore 4, 2) := by decide +kernel
theorem dX11_stride_112 : decode cX11_stride 112 = .ok (.iinc 5 1, 3) := by decide +kernel
theorem dX11_stride_115 : decode cX11_stride 115 = .ok (.goto (-85), 3) := by decide +kernel
theorem dX11_stride_118 : decode cX11_stride 118 = .ok (.iload_n 3, 1) := by decide +kernel
theorem dX11_stride_119 : decode cX11_stride 119 = .ok (.ireturn, 1) := by decide +kernel
theorem dX11_settle_0 : decode cX11_settle 0 = .ok (.aload_n 0, 1) := by decide +kernel
theorem dX11_settle_1 : decode cX11_settle 1 = .ok (.getfield 29, 3) := by decide +kernel
theorem dX11_settle_4 : decode cX11_settle 4 = .ok (.iload_n 1, 1) := by decide +kernel
theorem dX11_settle_5 : decode cX11_settle 5 = .ok (.invokevirtual 119, 3) := by decide +kernel
theorem dX11_settle_8 : decode cX11_settle 8 = .ok (.ifCond .eq 14, 3) := by decide +kernel
theorem dX11_settle_11 : decode cX11_settle 11 = .ok (.aload_n 0, 1) := by decide +kernel
theorem dX11_settle_12 : decode cX11_settle 12 = .ok (.getfield 29, 3) := by decide +kernel
theorem dX11_settle_15 : decode cX11_settle 15 = .ok (.iload_n 2, 1) := by decide +kernel
theorem dX11_settle_16 : decode cX11_settle 16 = .ok (.invokevirtual 229, 3) := by decide +kernel
theorem dX11_settle_19 : decode cX11_settle 19 = .ok (.ifCond .ne 5, 3) := by decide +kernel
theorem dX11_settle_22 : decode cX11_settle 22 = .ok (.iconst (-1), 1) := by decide +kernel
theorem dX11_settle_23 : decode cX11_settle 23 = .ok (.ireturn, 1) := by decide +kernel
theorem dX11_settle_24 : decode cX11_settle 24 = .ok (.aload_n 0, 1) := by decide +kernel
theorem dX11_settle_25 : decode cX11_settle 25 = .ok (.getfield 43, 3) := by decide +kernel
theorem dX11_settle_28 : decode cX11_settle 28 = .ok (.aload_n 0, 1) := by decide +kernel
theorem dX11_settle_29 : decode cX11_settle 29 = .ok (.getfield 39, 3) := by decide +kernel
theorem dX11_settle_32 : decode cX11_settle 32 = .ok (.invokevirtual 232, 3) := by decide +kernel
theorem dX11_settle_35 : decode cX11_settle 35 = .ok (.iconst 0, 1) := by decide +kernel
theorem dX11_settle_36 : decode cX11_settle 36 = .ok (.istore_n 3, 1) := by decide +kernel
theorem dX11_settle_37 : decode cX11_settle 37 = .ok (.iload_n 3, 1) := by decide +kernel
theorem dX11_settle_38 : decode cX11_settle 38 = .ok (.bipush 60, 2) := by decide +kernel
theorem dX11_settle_40 : decode cX11_settle 40 = .ok (.if_icmp .gt 50, 3) := by decide +kernel
theorem dX11_settle_43 : decode cX11_settle 43 = .ok (.aload_n 0, 1) := by decide +kernel
theorem dX11_settle_44 : decode cX11_settle 44 = .ok (.getfield 29, 3) := by decide +kernel
theorem dX11_settle_47 : decode cX11_settle 47 = .ok (.aload_n 0, 1) := by decide +kernel
theorem dX11_settle_48 : decode cX11_settle 48 = .ok (.getfield 43, 3) := by decide +kernel
theorem dX11_settle_51 : decode cX11_settle 51 = .ok (.iload_n 1, 1) := by decide +kernel
theorem dX11_settle_52 : decode cX11_settle 52 = .ok (.iload_n 2, 1) := by decide +kernel
theorem dX11_settle_53 : decode cX11_settle 53 = .ok (.invokevirtual 235, 3) := by decide +kernel
theorem dX11_settle_56 : decode cX11_settle 56 = .ok (.aload_n 0, 1) := by decide +kernel
theorem dX11_settle_57 : decode cX11_settle 57 = .ok (.getfield 29, 3) := by decide +kernel
theorem dX11_settle_60 : decode cX11_settle 60 = .ok (.aload_n 0, 1) := by decide +kernel
theorem dX11_settle_61 : decode cX11_settle 61 = .ok (.getfield 43, 3) := by decide +kernel
theorem dX11_settle_64 : decode cX11_settle 64 = .ok (.iload_n 1, 1) := by decide +kernel
theorem dX11_settle_65 : decode cX11_settle 65 = .ok (.invokevirtual 148, 3) := by decide +kernel
theorem dX11_settle_68 : decode cX11_settle 68 = .ok (.ifCond .ne 5, 3) := by decide +kernel
theorem dX11_settle_71 : decode cX11_settle 71 = .ok (.iload_n 3, 1) := by decide +kernel
theorem dX11_settle_72 : decode cX11_settle 72 = .ok (.ireturn, 1) := by decide +kernel
theorem dX11_settle_73 : decode cX11_settle 73 = .ok (.aload_n 0, 1) := by decide +kernel
theorem dX11_settle_74 : decode cX11_settle 74 = .ok (.getfield 29, 3) := by decide +kernel
theorem dX11_settle_77 : decode cX11_settle 77 = .ok (.aload_n 0, 1) := by decide +kernel
theorem dX11_settle_78 : decode cX11_settle 78 = .ok (.getfield 43, 3) := by decide +kernel
theorem dX11_settle_81 : decode cX11_settle 81 = .ok (.invokevirtual 189, 3) := by decide +kernel
theorem dX11_settle_84 : decode cX11_settle 84 = .ok (.iinc 3 1, 3) := by decide +kernel
theorem dX11_settle_87 : decode cX11_settle 87 = .ok (.goto (-50), 3) := by decide +kernel
theorem dX11_settle_90 : decode cX11_settle 90 = .ok (.iconst (-1), 1) := by decide +kernel
theorem dX11_settle_91 : decode cX11_settle 91 = .ok (.ireturn, 1) := by decide +kernel
theorem dX11_care_0 : decode cX11_care 0 = .ok (.aload_n 0, 1) := by decide +kernel
theorem dX11_care_1 : decode cX11_care 1 = .ok (.getfield 70, 3) := by decide +kernel
theorem dX11_care_4 : decode cX11_care 4 = .ok (.aload_n 0, 1) := by decide +kernel
theorem dX11_care_5 : decode cX11_care 5 = .ok (.getfield 29, 3) := by decide +kernel
theorem dX11_care_8 : decode cX11_care 8 = .ok (.getfield 110, 3) := by decide +kernel
theorem dX11_care_11 : decode cX11_care 11 = .ok (.invokevirtual 239, 3) := by decide +kernel
theorem dX11_care_14 : decode cX11_care 14 = .ok (.iconst 0, 1) := by decide +kernel
theorem dX11_care_15 : decode cX11_care 15 = .ok (.istore_n 1, 1) := by decide +kernel
theorem dX11_care_16 : decode cX11_care 16 = .ok (.iload_n 1, 1) := by decide +kernel
theorem dX11_care_17 : decode cX11_care 17 = .ok (.aload_n 0, 1) := by decide +kernel
theorem dX11_care_18 : decode cX11_care 18 = .ok (.getfield 29, 3) := by decide +kernel
theorem dX11_care_21 : decode cX11_care 21 = .ok (.getfield 110, 3) := by decide +kernel
theorem dX11_care_24 : decode cX11_care 24 = .ok (.if_icmp .ge 62, 3) := by decide +kernel
theorem dX11_care_27 : decode cX11_care 27 = .ok (.aload_n 0, 1) := by decide +kernel
theorem dX11_care_28 : decode cX11_care 28 = .ok (.getfield 29, 3) := by decide +kernel
theorem dX11_care_31 : decode cX11_care 31 = .ok (.getfield 123, 3) := by decide +kernel
theorem dX11_care_34 : decode cX11_care 34 = .ok (.iload_n 1, 1) := by decide +kernel
theorem dX11_care_35 : decode cX11_care 35 = .ok (.iaload, 1) := by decide +kernel
theorem dX11_care_36 : decode cX11_care 36 = .ok (.ifCond .le 44, 3) := by decide +kernel
theorem dX11_care_39 : decode cX11_care 39 = .ok (.aload_n 0, 1) := by decide +kernel
theorem dX11_care_40 : decode cX11_care 40 = .ok (.getfield 29, 3) := by decide +kernel
theorem dX11_care_43 : decode cX11_care 43 = .ok (.aload_n 0, 1) := by decide +kernel
theorem dX11_care_44 : decode cX11_care 44 = .ok (.getfield 29, 3) := by decide +kernel
theorem dX11_care_47 : decode cX11_care 47 = .ok (.getfield 123, 3) := by decide +kernel
theorem dX11_care_50 : decode cX11_care 50 = .ok (.iload_n 1, 1) := by decide +kernel
theorem dX11_care_51 : decode cX11_care 51 = .ok (.iaload, 1) := by decide +kernel
theorem dX11_care_52 : decode cX11_care 52 = .ok (.aload_n 0, 1) := by decide +kernel
theorem dX11_care_53 : decode cX11_care 53 = .ok (.getfield 29, 3) := by decide +kernel
theorem dX11_care_56 : decode cX11_care 56 = .ok (.getfield 130, 3) := by decide +kernel
theorem dX11_care_59 : decode cX11_care 59 = .ok (.iload_n 1, 1) := by decide +kernel
theorem dX11_care_60 : decode cX11_care 60 = .ok (.iaload, 1) := by decide +kernel
theorem dX11_care_61 : decode cX11_care 61 = .ok (.invokevirtual 167, 3) := by decide +kernel
theorem dX11_care_64 : decode cX11_care 64 = .ok (.istore_n 2, 1) := by decide +kernel
theorem dX11_care_65 : decode cX11_care 65 = .ok (.aload_n 0, 1) := by decide +kernel
theorem dX11_care_66 : decode cX11_care 66 = .ok (.getfield 70, 3) := by decide +kernel
theorem dX11_care_69 : decode cX11_care 69 = .ok (.iload_n 1, 1) := by decide +kernel
theorem dX11_care_70 : decode cX11_care 70 = .ok (.aload_n 0, 1) := by decide +kernel
theorem dX11_care_71 : decode cX11_care 71 = .ok (.iload_n 1, 1) := by decide +kernel
theorem dX11_care_72 : decode cX11_care 72 = .ok (.iload_n 2, 1) := by decide +kernel
theorem dX11_care_73 : decode cX11_care 73 = .ok (.invokevirtual 241, 3) := by decide +kernel
theorem dX11_care_76 : decode cX11_care 76 = .ok (.iconst 0, 1) := by decide +kernel
theorem dX11_care_77 : decode cX11_care 77 = .ok (.invokevirtual 244, 3) := by decide +kernel
theorem dX11_care_80 : decode cX11_care 80 = .ok (.iinc 1 1, 3) := by decide +kernel
theorem dX11_care_83 : decode cX11_care 83 = .ok (.goto (-67), 3) := by decide +kernel
theorem dX11_care_86 : decode cX11_care 86 = .ok (.aload_n 0, 1) := by decide +kernel
theorem dX11_care_87 : decode cX11_care 87 = .ok (.getfield 70, 3) := by decide +kernel
theorem dX11_care_90 : decode cX11_care 90 = .ok (.invokevirtual 248, 3) := by decide +kernel
theorem dX11_care_93 : decode cX11_care 93 = .ok (.aload_n 0, 1) := by decide +kernel
theorem dX11_care_94 : decode cX11_care 94 = .ok (.getfield 70, 3) := by decide +kernel
theorem dX11_care_97 : decode cX11_care 97 = .ok (.aload_n 0, 1) := by decide +kernel
theorem dX11_care_98 : decode cX11_care 98 = .ok (.getfield 56, 3) := by decide +kernel
theorem dX11_care_101 : decode cX11_care 101 = .ok (.invokevirtual 251, 3) := by decide +kernel
theorem dX11_care_104 : decode cX11_care 104 = .ok (.aload_n 0, 1) := by decide +kernel
theorem dX11_care_105 : decode cX11_care 105 = .ok (.getfield 70, 3) := by decide +kernel
theorem dX11_care_108 : decode cX11_care 108 = .ok (.invokevirtual 255, 3) := by decide +kernel
theorem dX11_care_111 : decode cX11_care 111 = .ok (.ireturn, 1) := by decide +kernel
theorem dX11_proxy_0 : decode cX11_proxy 0 = .ok (.aload_n 0, 1) := by decide +kernel
theorem dX11_proxy_1 : decode cX11_proxy 1 = .ok (.invokevirtual 259, 3) := by decide +kernel
theorem dX11_proxy_4 : decode cX11_proxy 4 = .ok (.aload_n 0, 1) := by decide +kernel
theorem dX11_proxy_5 : decode cX11_proxy 5 = .ok (.getfield 70, 3) := by decide +kernel
theorem dX11_proxy_8 : decode cX11_proxy 8 = .ok (.aload_n 0, 1) := by decide +kernel
theorem dX11_proxy_9 : decode cX11_proxy 9 = .ok (.getfield 56, 3) := by decide +kernel
theorem dX11_proxy_12 : decode cX11_proxy 12 = .ok (.invokevirtual 251, 3) := by decide +kernel
theorem dX11_proxy_15 : decode cX11_proxy 15 = .ok (.aload_n 0, 1) := by decide +kernel
theorem dX11_proxy_16 : decode cX11_proxy 16 = .ok (.getfield 70, 3) := by decide +kernel
theorem dX11_proxy_19 : decode cX11_proxy 19 = .ok (.invokevirtual 255, 3) := by decide +kernel
theorem dX11_proxy_22 : decode cX11_proxy 22 = .ok (.ireturn, 1) := by decide +kernel
theorem dX11_toil_0 : decode cX11_toil 0 = .ok (.aload_n 0, 1) := by decide +kernel
theorem dX11_toil_1 : decode cX11_toil 1 = .ok (.invokevirtual 259, 3) := by decide +kernel
theorem dX11_toil_4 : decode cX11_toil 4 = .ok (.aload_n 0, 1) := by decide +kernel
theorem dX11_toil_5 : decode cX11_toil 5 = .ok (.getfield 70, 3) := by decide +kernel
theorem dX11_toil_8 : decode cX11_toil 8 = .ok (.invokevirtual 262, 3) := by decide +kernel
theorem dX11_toil_11 : decode cX11_toil 11 = .ok (.ireturn, 1) := by decide +kernel
theorem dX11_pairProxies_0 : decode cX11_pairProxies 0 = .ok (.aload_n 0, 1) := by decide +kernel
theorem dX11_pairProxies_1 : decode cX11_pairProxies 1 = .ok (.getfield 70, 3) := by decide +kernel
theorem dX11_pairProxies_4 : decode cX11_pairProxies 4 = .ok (.aload_n 0, 1) := by decide +kernel
theorem dX11_pairProxies_5 : decode cX11_pairProxies 5 = .ok (.getfield 29, 3) := by decide +kernel
theorem dX11_pairProxies_8 : decode cX11_pairProxies 8 = .ok (.getfield 110, 3) := by decide +kernel
theorem dX11_pairProxies_11 : decode cX11_pairProxies 11 = .ok (.invokevirtual 239, 3) := by decide +kernel
theorem dX11_pairProxies_14 : decode cX11_pairProxies 14 = .ok (.iconst 0, 1) := by decide +kernel
theorem dX11_pairProxies_15 : decode cX11_pairProxies 15 = .ok (.istore_n 1, 1) := by decide +kernel
theorem dX11_pairProxies_16 : decode cX11_pairProxies 16 = .ok (.iload_n 1, 1) := by decide +kernel
theorem dX11_pairProxies_17 : decode cX11_pairProxies 17 = .ok (.aload_n 0, 1) := by decide +kernel
theorem dX11_pairProxies_18 : decode cX11_pairProxies 18 = .ok (.getfield 29, 3) := by decide +kernel
theorem dX11_pairProxies_21 : decode cX11_pairProxies 21 = .ok (.getfield 110, 3) := by decide +kernel
theorem dX11_pairProxies_24 : decode cX11_pairProxies 24 = .ok (.if_icmp .ge 64, 3) := by decide +kernel
theorem dX11_pairProxies_27 : decode cX11_pairProxies 27 = .ok (.aload_n 0, 1) := by decide +kernel
theorem dX11_pairProxies_28 : decode cX11_pairProxies 28 = .ok (.getfield 29, 3) := by decide +kernel
theorem dX11_pairProxies_31 : decode cX11_pairProxies 31 = .ok (.aload_n 0, 1) := by decide +kernel
theorem dX11_pairProxies_32 : decode cX11_pairProxies 32 = .ok (.getfield 39, 3) := by decide +kernel
theorem dX11_pairProxies_35 : decode cX11_pairProxies 35 = .ok (.iload_n 1, 1) := by decide +kernel
theorem dX11_pairProxies_36 : decode cX11_pairProxies 36 = .ok (.invokevirtual 148, 3) := by decide +kernel
theorem dX11_pairProxies_39 : decode cX11_pairProxies 39 = .ok (.istore_n 2, 1) := by decide +kernel
theorem dX11_pairProxies_40 : decode cX11_pairProxies 40 = .ok (.iload_n 2, 1) := by decide +kernel
theorem dX11_pairProxies_41 : decode cX11_pairProxies 41 = .ok (.ifCond .le 41, 3) := by decide +kernel
theorem dX11_pairProxies_44 : decode cX11_pairProxies 44 = .ok (.aload_n 0, 1) := by decide +kernel
theorem dX11_pairProxies_45 : decode cX11_pairProxies 45 = .ok (.iload_n 2, 1) := by decide +kernel
theorem dX11_pairProxies_46 : decode cX11_pairProxies 46 = .ok (.invokevirtual 264, 3) := by decide +kernel
theorem dX11_pairProxies_49 : decode cX11_pairProxies 49 = .ok (.istore_n 3, 1) := by decide +kernel
theorem dX11_pairProxies_50 : decode cX11_pairProxies 50 = .ok (.iload_n 3, 1) := by decide +kernel
theorem dX11_pairProxies_51 : decode cX11_pairProxies 51 = .ok (.iconst (-1), 1) := by decide +kernel
theorem dX11_pairProxies_52 : decode cX11_pairProxies 52 = .ok (.if_icmp .eq 30, 3) := by decide +kernel
theorem dX11_pairProxies_55 : decode cX11_pairProxies 55 = .ok (.aload_n 0, 1) := by decide +kernel
theorem dX11_pairProxies_56 : decode cX11_pairProxies 56 = .ok (.getfield 29, 3) := by decide +kernel
theorem dX11_pairProxies_59 : decode cX11_pairProxies 59 = .ok (.iload_n 3, 1) := by decide +kernel
theorem dX11_pairProxies_60 : decode cX11_pairProxies 60 = .ok (.iconst 0, 1) := by decide +kernel
theorem dX11_pairProxies_61 : decode cX11_pairProxies 61 = .ok (.invokevirtual 167, 3) := by decide +kernel
theorem dX11_pairProxies_64 : decode cX11_pairProxies 64 = .ok (.istore 4, 2) := by decide +kernel
theorem dX11_pairProxies_66 : decode cX11_pairProxies 66 = .ok (.aload_n 0, 1) := by decide +kernel
theorem dX11_pairProxies_67 : decode cX11_pairProxies 67 = .ok (.getfield 70, 3) := by decide +kernel
theorem dX11_pairProxies_70 : decode cX11_pairProxies 70 = .ok (.iload_n 1, 1) := by decide +kernel
theorem dX11_pairProxies_71 : decode cX11_pairProxies 71 = .ok (.aload_n 0, 1) := by decide +kernel
theorem dX11_pairProxies_72 : decode cX11_pairProxies 72 = .ok (.iload_n 1, 1) := by decide +kernel
theorem dX11_pairProxies_73 : decode cX11_pairProxies 73 = .ok (.iload 4, 2) := by decide +kernel
theorem dX11_pairProxies_75 : decode cX11_pairProxies 75 = .ok (.invokevirtual 241, 3) := by decide +kernel
theorem dX11_pairProxies_78 : decode cX11_pairProxies 78 = .ok (.iload_n 3, 1) := by decide +kernel
theorem dX11_pairProxies_79 : decode cX11_pairProxies 79 = .ok (.invokevirtual 244, 3) := by decide +kernel
theorem dX11_pairProxies_82 : decode cX11_pairProxies 82 = .ok (.iinc 1 1, 3) := by decide +kernel
theorem dX11_pairProxies_85 : decode cX11_pairProxies 85 = .ok (.goto (-69), 3) := by decide +kernel
theorem dX11_pairProxies_88 : decode cX11_pairProxies 88 = .ok (.aload_n 0, 1) := by decide +kernel
theorem dX11_pairProxies_89 : decode cX11_pairProxies 89 = .ok (.getfield 70, 3) := by decide +kernel
theorem dX11_pairProxies_92 : decode cX11_pairProxies 92 = .ok (.invokevirtual 248, 3) := by decide +kernel
theorem dX11_pairProxies_95 : decode cX11_pairProxies 95 = .ok (.return_, 1) := by decide +kernel
theorem dX11_fewestStoreysFor_0 : decode cX11_fewestStoreysFor 0 = .ok (.iconst 1, 1) := by decide +kernel
theorem dX11_fewestStoreysFor_1 : decode cX11_fewestStoreysFor 1 = .ok (.istore_n 2, 1) := by decide +kernel
theorem dX11_fewestStoreysFor_2 : decode cX11_fewestStoreysFor 2 = .ok (.iload_n 2, 1) := by decide +kernel
theorem dX11_fewestStoreysFor_3 : decode cX11_fewestStoreysFor 3 = .ok (.aload_n 0, 1) := by decide +kernel
theorem dX11_fewestStoreysFor_4 : decode cX11_fewestStoreysFor 4 = .ok (.getfield 29, 3) := by decide +kernel
theorem dX11_fewestStoreysFor_7 : decode cX11_fewestStoreysFor 7 = .ok (.getfield 210, 3) := by decide +kernel
theorem dX11_fewestStoreysFor_10 : decode cX11_fewestStoreysFor 10 = .ok (.if_icmp .gt 36, 3) := by decide +kernel
theorem dX11_fewestStoreysFor_13 : decode cX11_fewestStoreysFor 13 = .ok (.aload_n 0, 1) := by decide +kernel
theorem dX11_fewestStoreysFor_14 : decode cX11_fewestStoreysFor 14 = .ok (.getfield 29, 3) := by decide +kernel
theorem dX11_fewestStoreysFor_17 : decode cX11_fewestStoreysFor 17 = .ok (.aload_n 0, 1) := by decide +kernel
theorem dX11_fewestStoreysFor_18 : decode cX11_fewestStoreysFor 18 = .ok (.getfield 39, 3) := by decide +kernel
theorem dX11_fewestStoreysFor_21 : decode cX11_fewestStoreysFor 21 = .ok (.iload_n 2, 1) := by decide +kernel
theorem dX11_fewestStoreysFor_22 : decode cX11_fewestStoreysFor 22 = .ok (.iconst 0, 1) := by decide +kernel
theorem dX11_fewestStoreysFor_23 : decode cX11_fewestStoreysFor 23 = .ok (.iconst 0, 1) := by decide +kernel
theorem dX11_fewestStoreysFor_24 : decode cX11_fewestStoreysFor 24 = .ok (.aload_n 0, 1) := by decide +kernel
theorem dX11_fewestStoreysFor_25 : decode cX11_fewestStoreysFor 25 = .ok (.getfield 39, 3) := by decide +kernel
theorem dX11_fewestStoreysFor_28 : decode cX11_fewestStoreysFor 28 = .ok (.getfield 160, 3) := by decide +kernel
theorem dX11_fewestStoreysFor_31 : decode cX11_fewestStoreysFor 31 = .ok (.invokevirtual 163, 3) := by decide +kernel
theorem dX11_fewestStoreysFor_34 : decode cX11_fewestStoreysFor 34 = .ok (.iload_n 1, 1) := by decide +kernel
theorem dX11_fewestStoreysFor_35 : decode cX11_fewestStoreysFor 35 = .ok (.if_icmp .lt 5, 3) := by decide +kernel
theorem dX11_fewestStoreysFor_38 : decode cX11_fewestStoreysFor 38 = .ok (.iload_n 2, 1) := by decide +kernel
theorem dX11_fewestStoreysFor_39 : decode cX11_fewestStoreysFor 39 = .ok (.ireturn, 1) := by decide +kernel
theorem dX11_fewestStoreysFor_40 : decode cX11_fewestStoreysFor 40 = .ok (.iinc 2 1, 3) := by decide +kernel
theorem dX11_fewestStoreysFor_43 : decode cX11_fewestStoreysFor 43 = .ok (.goto (-41), 3) := by decide +kernel
theorem dX11_fewestStoreysFor_46 : decode cX11_fewestStoreysFor 46 = .ok (.iconst (-1), 1) := by decide +kernel
theorem dX11_fewestStoreysFor_47 : decode cX11_fewestStoreysFor 47 = .ok (.ireturn, 1) := by decide +kernel
theorem dX11_othersWithBreath_0 : decode cX11_othersWithBreath 0 = .ok (.iconst 0, 1) := by decide +kernel
theorem dX11_othersWithBreath_1 : decode cX11_othersWithBreath 1 = .ok (.istore_n 3, 1) := by decide +kernel
theorem dX11_othersWithBreath_2 : decode cX11_othersWithBreath 2 = .ok (.iconst 0, 1) := by decide +kernel
theorem dX11_othersWithBreath_3 : decode cX11_othersWithBreath 3 = .ok (.istore 4, 2) := by decide +kernel
theorem dX11_othersWithBreath_5 : decode cX11_othersWithBreath 5 = .ok (.iload 4, 2) := by decide +kernel
theorem dX11_othersWithBreath_7 : decode cX11_othersWithBreath 7 = .ok (.aload_n 0, 1) := by decide +kernel
theorem dX11_othersWithBreath_8 : decode cX11_othersWithBreath 8 = .ok (.getfield 29, 3) := by decide +kernel
theorem dX11_othersWithBreath_11 : decode cX11_othersWithBreath 11 = .ok (.getfield 110, 3) := by decide +kernel
theorem dX11_othersWithBreath_14 : decode cX11_othersWithBreath 14 = .ok (.if_icmp .ge 36, 3) := by decide +kernel
theorem dX11_othersWithBreath_17 : decode cX11_othersWithBreath 17 = .ok (.iload 4, 2) := by decide +kernel
theorem dX11_othersWithBreath_19 : decode cX11_othersWithBreath 19 = .ok (.iload_n 1, 1) := by decide +kernel
theorem dX11_othersWithBreath_20 : decode cX11_othersWithBreath 20 = .ok (.if_icmp .eq 24, 3) := by decide +kernel
theorem dX11_othersWithBreath_23 : decode cX11_othersWithBreath 23 = .ok (.aload_n 0, 1) := by decide +kernel
theorem dX11_othersWithBreath_24 : decode cX11_othersWithBreath 24 = .ok (.getfield 39, 3) := by decide +kernel
theorem dX11_othersWithBreath_27 : decode cX11_othersWithBreath 27 = .ok (.getfield 139, 3) := by decide +kernel
theorem dX11_othersWithBreath_30 : decode cX11_othersWithBreath 30 = .ok (.iload 4, 2) := by decide +kernel
theorem dX11_othersWithBreath_32 : decode cX11_othersWithBreath 32 = .ok (.iaload, 1) := by decide +kernel
theorem dX11_othersWithBreath_33 : decode cX11_othersWithBreath 33 = .ok (.iload_n 2, 1) := by decide +kernel
theorem dX11_othersWithBreath_34 : decode cX11_othersWithBreath 34 = .ok (.if_icmp .lt 10, 3) := by decide +kernel
theorem dX11_othersWithBreath_37 : decode cX11_othersWithBreath 37 = .ok (.iload_n 3, 1) := by decide +kernel
theorem dX11_othersWithBreath_38 : decode cX11_othersWithBreath 38 = .ok (.iconst 1, 1) := by decide +kernel
theorem dX11_othersWithBreath_39 : decode cX11_othersWithBreath 39 = .ok (.iload 4, 2) := by decide +kernel
theorem dX11_othersWithBreath_41 : decode cX11_othersWithBreath 41 = .ok (.ishl, 1) := by decide +kernel
theorem dX11_othersWithBreath_42 : decode cX11_othersWithBreath 42 = .ok (.ior, 1) := by decide +kernel
theorem dX11_othersWithBreath_43 : decode cX11_othersWithBreath 43 = .ok (.istore_n 3, 1) := by decide +kernel
theorem dX11_othersWithBreath_44 : decode cX11_othersWithBreath 44 = .ok (.iinc 4 1, 3) := by decide +kernel
theorem dX11_othersWithBreath_47 : decode cX11_othersWithBreath 47 = .ok (.goto (-42), 3) := by decide +kernel
theorem dX11_othersWithBreath_50 : decode cX11_othersWithBreath 50 = .ok (.iload_n 3, 1) := by decide +kernel
theorem dX11_othersWithBreath_51 : decode cX11_othersWithBreath 51 = .ok (.ireturn, 1) := by decide +kernel
theorem dX11_gifts_0 : decode cX11_gifts 0 = .ok (.iload_n 1, 1) := by decide +kernel
theorem dX11_gifts_1 : decode cX11_gifts 1 = .ok (.ifCond .lt 8, 3) := by decide +kernel
theorem dX11_gifts_4 : decode cX11_gifts 4 = .ok (.iload_n 1, 1) := by decide +kernel
theorem dX11_gifts_5 : decode cX11_gifts 5 = .ok (.iconst 2, 1) := by decide +kernel
theorem dX11_gifts_6 : decode cX11_gifts 6 = .ok (.if_icmp .le 5, 3) := by decide +kernel
theorem dX11_gifts_9 : decode cX11_gifts 9 = .ok (.iconst (-1), 1) := by decide +kernel
theorem dX11_gifts_10 : decode cX11_gifts 10 = .ok (.ireturn, 1) := by decide +kernel
theorem dX11_gifts_11 : decode cX11_gifts 11 = .ok (.aload_n 0, 1) := by decide +kernel
theorem dX11_gifts_12 : decode cX11_gifts 12 = .ok (.getfield 43, 3) := by decide +kernel
theorem dX11_gifts_15 : decode cX11_gifts 15 = .ok (.aload_n 0, 1) := by decide +kernel
theorem dX11_gifts_16 : decode cX11_gifts 16 = .ok (.getfield 39, 3) := by decide +kernel
theorem dX11_gifts_19 : decode cX11_gifts 19 = .ok (.invokevirtual 232, 3) := by decide +kernel
theorem dX11_gifts_22 : decode cX11_gifts 22 = .ok (.iconst 0, 1) := by decide +kernel
theorem dX11_gifts_23 : decode cX11_gifts 23 = .ok (.istore_n 2, 1) := by decide +kernel
theorem dX11_gifts_24 : decode cX11_gifts 24 = .ok (.iconst 0, 1) := by decide +kernel
theorem dX11_gifts_25 : decode cX11_gifts 25 = .ok (.istore_n 3, 1) := by decide +kernel
theorem dX11_gifts_26 : decode cX11_gifts 26 = .ok (.iconst 0, 1) := by decide +kernel
theorem dX11_gifts_27 : decode cX11_gifts 27 = .ok (.istore 4, 2) := by decide +kernel
theorem dX11_gifts_29 : decode cX11_gifts 29 = .ok (.iload 4, 2) := by decide +kernel
theorem dX11_gifts_31 : decode cX11_gifts 31 = .ok (.bipush 64, 2) := by decide +kernel
theorem dX11_gifts_33 : decode cX11_gifts 33 = .ok (.if_icmp .ge 31, 3) := by decide +kernel
theorem dX11_gifts_36 : decode cX11_gifts 36 = .ok (.aload_n 0, 1) := by decide +kernel
theorem dX11_gifts_37 : decode cX11_gifts 37 = .ok (.invokevirtual 267, 3) := by decide +kernel
theorem dX11_gifts_40 : decode cX11_gifts 40 = .ok (.istore 5, 2) := by decide +kernel
theorem dX11_gifts_42 : decode cX11_gifts 42 = .ok (.iload 5, 2) := by decide +kernel
theorem dX11_gifts_44 : decode cX11_gifts 44 = .ok (.ifCond .gt 6, 3) := by decide +kernel
theorem dX11_gifts_47 : decode cX11_gifts 47 = .ok (.goto 17, 3) := by decide +kernel
theorem dX11_gifts_50 : decode cX11_gifts 50 = .ok (.iinc 2 1, 3) := by decide +kernel
theorem dX11_gifts_53 : decode cX11_gifts 53 = .ok (.iload_n 3, 1) := by decide +kernel
theorem dX11_gifts_54 : decode cX11_gifts 54 = .ok (.iload 5, 2) := by decide +kernel
theorem dX11_gifts_56 : decode cX11_gifts 56 = .ok (.iadd, 1) := by decide +kernel
theorem dX11_gifts_57 : decode cX11_gifts 57 = .ok (.istore_n 3, 1) := by decide +kernel
theorem dX11_gifts_58 : decode cX11_gifts 58 = .ok (.iinc 4 1, 3) := by decide +kernel
theorem dX11_gifts_61 : decode cX11_gifts 61 = .ok (.goto (-32), 3) := by decide +kernel
theorem dX11_gifts_64 : decode cX11_gifts 64 = .ok (.iload_n 1, 1) := by decide +kernel
theorem dX11_gifts_65 : decode cX11_gifts 65 = .ok (.ifCond .ne 5, 3) := by decide +kernel
theorem dX11_gifts_68 : decode cX11_gifts 68 = .ok (.iload_n 2, 1) := by decide +kernel
theorem dX11_gifts_69 : decode cX11_gifts 69 = .ok (.ireturn, 1) := by decide +kernel
theorem dX11_gifts_70 : decode cX11_gifts 70 = .ok (.iload_n 1, 1) := by decide +kernel
theorem dX11_gifts_71 : decode cX11_gifts 71 = .ok (.iconst 1, 1) := by decide +kernel
theorem dX11_gifts_72 : decode cX11_gifts 72 = .ok (.if_icmp .ne 7, 3) := by decide +kernel
theorem dX11_gifts_75 : decode cX11_gifts 75 = .ok (.iload_n 3, 1) := by decide +kernel
theorem dX11_gifts_76 : decode cX11_gifts 76 = .ok (.goto 7, 3) := by decide +kernel
theorem dX11_gifts_79 : decode cX11_gifts 79 = .ok (.aload_n 0, 1) := by decide +kernel
theorem dX11_gifts_80 : decode cX11_gifts 80 = .ok (.invokevirtual 270, 3) := by decide +kernel
theorem dX11_gifts_83 : decode cX11_gifts 83 = .ok (.ireturn, 1) := by decide +kernel
theorem dX11_giveNext_0 : decode cX11_giveNext 0 = .ok (.iconst (-1), 1) := by decide +kernel
theorem dX11_giveNext_1 : decode cX11_giveNext 1 = .ok (.istore_n 1, 1) := by decide +kernel
theorem dX11_giveNext_2 : decode cX11_giveNext 2 = .ok (.iconst (-1), 1) := by decide +kernel
theorem dX11_giveNext_3 : decode cX11_giveNext 3 = .ok (.istore_n 2, 1) := by decide +kernel
theorem dX11_giveNext_4 : decode cX11_giveNext 4 = .ok (.aload_n 0, 1) := by decide +kernel
theorem dX11_giveNext_5 : decode cX11_giveNext 5 = .ok (.getfield 29, 3) := by decide +kernel
theorem dX11_giveNext_8 : decode cX11_giveNext 8 = .ok (.getfield 110, 3) := by decide +kernel
theorem dX11_giveNext_11 : decode cX11_giveNext 11 = .ok (.iconst 1, 1) := by decide +kernel
theorem dX11_giveNext_12 : decode cX11_giveNext 12 = .ok (.isub, 1) := by decide +kernel
theorem dX11_giveNext_13 : decode cX11_giveNext 13 = .ok (.istore_n 3, 1) := by decide +kernel
theorem dX11_giveNext_14 : decode cX11_giveNext 14 = .ok (.iload_n 3, 1) := by decide +kernel
theorem dX11_giveNext_15 : decode cX11_giveNext 15 = .ok (.ifCond .lt 58, 3) := by decide +kernel
theorem dX11_giveNext_18 : decode cX11_giveNext 18 = .ok (.aload_n 0, 1) := by decide +kernel
theorem dX11_giveNext_19 : decode cX11_giveNext 19 = .ok (.getfield 29, 3) := by decide +kernel
theorem dX11_giveNext_22 : decode cX11_giveNext 22 = .ok (.aload_n 0, 1) := by decide +kernel
theorem dX11_giveNext_23 : decode cX11_giveNext 23 = .ok (.getfield 43, 3) := by decide +kernel
theorem dX11_giveNext_26 : decode cX11_giveNext 26 = .ok (.iload_n 3, 1) := by decide +kernel
theorem dX11_giveNext_27 : decode cX11_giveNext 27 = .ok (.invokevirtual 273, 3) := by decide +kernel
theorem dX11_giveNext_30 : decode cX11_giveNext 30 = .ok (.ifCond .le 5, 3) := by decide +kernel
theorem dX11_giveNext_33 : decode cX11_giveNext 33 = .ok (.iload_n 3, 1) := by decide +kernel
theorem dX11_giveNext_34 : decode cX11_giveNext 34 = .ok (.istore_n 1, 1) := by decide +kernel
theorem dX11_giveNext_35 : decode cX11_giveNext 35 = .ok (.aload_n 0, 1) := by decide +kernel
theorem dX11_giveNext_36 : decode cX11_giveNext 36 = .ok (.getfield 29, 3) := by decide +kernel
theorem dX11_giveNext_39 : decode cX11_giveNext 39 = .ok (.aload_n 0, 1) := by decide +kernel
theorem dX11_giveNext_40 : decode cX11_giveNext 40 = .ok (.getfield 43, 3) := by decide +kernel
theorem dX11_giveNext_43 : decode cX11_giveNext 43 = .ok (.iload_n 3, 1) := by decide +kernel
theorem dX11_giveNext_44 : decode cX11_giveNext 44 = .ok (.invokevirtual 148, 3) := by decide +kernel
theorem dX11_giveNext_47 : decode cX11_giveNext 47 = .ok (.ifCond .le 20, 3) := by decide +kernel
theorem dX11_giveNext_50 : decode cX11_giveNext 50 = .ok (.aload_n 0, 1) := by decide +kernel
theorem dX11_giveNext_51 : decode cX11_giveNext 51 = .ok (.getfield 43, 3) := by decide +kernel
theorem dX11_giveNext_54 : decode cX11_giveNext 54 = .ok (.getfield 142, 3) := by decide +kernel
theorem dX11_giveNext_57 : decode cX11_giveNext 57 = .ok (.iload_n 3, 1) := by decide +kernel
theorem dX11_giveNext_58 : decode cX11_giveNext 58 = .ok (.iaload, 1) := by decide +kernel
theorem dX11_giveNext_59 : decode cX11_giveNext 59 = .ok (.sipush 9999, 3) := by decide +kernel
theorem dX11_giveNext_62 : decode cX11_giveNext 62 = .ok (.if_icmp .ge 5, 3) := by decide +kernel
theorem dX11_giveNext_65 : decode cX11_giveNext 65 = .ok (.iload_n 3, 1) := by decide +kernel
theorem dX11_giveNext_66 : decode cX11_giveNext 66 = .ok (.istore_n 2, 1) := by decide +kernel
theorem dX11_giveNext_67 : decode cX11_giveNext 67 = .ok (.iinc 3 (-1), 3) := by decide +kernel
theorem dX11_giveNext_70 : decode cX11_giveNext 70 = .ok (.goto (-56), 3) := by decide +kernel
theorem dX11_giveNext_73 : decode cX11_giveNext 73 = .ok (.aload_n 0, 1) := by decide +kernel
theorem dX11_giveNext_74 : decode cX11_giveNext 74 = .ok (.iload_n 1, 1) := by decide +kernel
theorem dX11_giveNext_75 : decode cX11_giveNext 75 = .ok (.iload_n 2, 1) := by decide +kernel
theorem dX11_giveNext_76 : decode cX11_giveNext 76 = .ok (.invokevirtual 182, 3) := by decide +kernel
theorem dX11_giveNext_79 : decode cX11_giveNext 79 = .ok (.ifCond .ne 5, 3) := by decide +kernel
theorem dX11_giveNext_82 : decode cX11_giveNext 82 = .ok (.iconst 0, 1) := by decide +kernel
theorem dX11_giveNext_83 : decode cX11_giveNext 83 = .ok (.ireturn, 1) := by decide +kernel
theorem dX11_giveNext_84 : decode cX11_giveNext 84 = .ok (.aload_n 0, 1) := by decide +kernel
theorem dX11_giveNext_85 : decode cX11_giveNext 85 = .ok (.getfield 29, 3) := by decide +kernel
theorem dX11_giveNext_88 : decode cX11_giveNext 88 = .ok (.aload_n 0, 1) := by decide +kernel
theorem dX11_giveNext_89 : decode cX11_giveNext 89 = .ok (.getfield 43, 3) := by decide +kernel
theorem dX11_giveNext_92 : decode cX11_giveNext 92 = .ok (.iload_n 1, 1) := by decide +kernel
theorem dX11_giveNext_93 : decode cX11_giveNext 93 = .ok (.invokevirtual 273, 3) := by decide +kernel
theorem dX11_giveNext_96 : decode cX11_giveNext 96 = .ok (.aload_n 0, 1) := by decide +kernel
theorem dX11_giveNext_97 : decode cX11_giveNext 97 = .ok (.getfield 29, 3) := by decide +kernel
theorem dX11_giveNext_100 : decode cX11_giveNext 100 = .ok (.aload_n 0, 1) := by decide +kernel
theorem dX11_giveNext_101 : decode cX11_giveNext 101 = .ok (.getfield 43, 3) := by decide +kernel
theorem dX11_giveNext_104 : decode cX11_giveNext 104 = .ok (.iload_n 2, 1) := by decide +kernel
theorem dX11_giveNext_105 : decode cX11_giveNext 105 = .ok (.invokevirtual 148, 3) := by decide +kernel
theorem dX11_giveNext_108 : decode cX11_giveNext 108 = .ok (.invokestatic 276, 3) := by decide +kernel
theorem dX11_giveNext_111 : decode cX11_giveNext 111 = .ok (.istore_n 3, 1) := by decide +kernel
theorem dX11_giveNext_112 : decode cX11_giveNext 112 = .ok (.iload_n 3, 1) := by decide +kernel
theorem dX11_giveNext_113 : decode cX11_giveNext 113 = .ok (.sipush 9999, 3) := by decide +kernel
theorem dX11_giveNext_116 : decode cX11_giveNext 116 = .ok (.aload_n 0, 1) := by decide +kernel
theorem dX11_giveNext_117 : decode cX11_giveNext 117 = .ok (.getfield 43, 3) := by decide +kernel
theorem dX11_giveNext_120 : decode cX11_giveNext 120 = .ok (.getfield 142, 3) := by decide +kernel
theorem dX11_giveNext_123 : decode cX11_giveNext 123 = .ok (.iload_n 2, 1) := by decide +kernel
theorem dX11_giveNext_124 : decode cX11_giveNext 124 = .ok (.iaload, 1) := by decide +kernel
theorem dX11_giveNext_125 : decode cX11_giveNext 125 = .ok (.isub, 1) := by decide +kernel
theorem dX11_giveNext_126 : decode cX11_giveNext 126 = .ok (.invokestatic 276, 3) := by decide +kernel
theorem dX11_giveNext_129 : decode cX11_giveNext 129 = .ok (.istore_n 3, 1) := by decide +kernel
theorem dX11_giveNext_130 : decode cX11_giveNext 130 = .ok (.aload_n 0, 1) := by decide +kernel
theorem dX11_giveNext_131 : decode cX11_giveNext 131 = .ok (.getfield 43, 3) := by decide +kernel
theorem dX11_giveNext_134 : decode cX11_giveNext 134 = .ok (.getfield 142, 3) := by decide +kernel
theorem dX11_giveNext_137 : decode cX11_giveNext 137 = .ok (.iload_n 1, 1) := by decide +kernel
theorem dX11_giveNext_138 : decode cX11_giveNext 138 = .ok (.dup2, 1) := by decide +kernel
theorem dX11_giveNext_139 : decode cX11_giveNext 139 = .ok (.iaload, 1) := by decide +kernel
theorem dX11_giveNext_140 : decode cX11_giveNext 140 = .ok (.iload_n 3, 1) := by decide +kernel
theorem dX11_giveNext_141 : decode cX11_giveNext 141 = .ok (.isub, 1) := by decide +kernel
theorem dX11_giveNext_142 : decode cX11_giveNext 142 = .ok (.iastore, 1) := by decide +kernel
theorem dX11_giveNext_143 : decode cX11_giveNext 143 = .ok (.aload_n 0, 1) := by decide +kernel
theorem dX11_giveNext_144 : decode cX11_giveNext 144 = .ok (.getfield 43, 3) := by decide +kernel
theorem dX11_giveNext_147 : decode cX11_giveNext 147 = .ok (.getfield 142, 3) := by decide +kernel
theorem dX11_giveNext_150 : decode cX11_giveNext 150 = .ok (.iload_n 2, 1) := by decide +kernel
theorem dX11_giveNext_151 : decode cX11_giveNext 151 = .ok (.dup2, 1) := by decide +kernel
theorem dX11_giveNext_152 : decode cX11_giveNext 152 = .ok (.iaload, 1) := by decide +kernel
theorem dX11_giveNext_153 : decode cX11_giveNext 153 = .ok (.iload_n 3, 1) := by decide +kernel
theorem dX11_giveNext_154 : decode cX11_giveNext 154 = .ok (.iadd, 1) := by decide +kernel
theorem dX11_giveNext_155 : decode cX11_giveNext 155 = .ok (.iastore, 1) := by decide +kernel
theorem dX11_giveNext_156 : decode cX11_giveNext 156 = .ok (.iload_n 3, 1) := by decide +kernel
theorem dX11_giveNext_157 : decode cX11_giveNext 157 = .ok (.ireturn, 1) := by decide +kernel
theorem dX11_lacksAhead_0 : decode cX11_lacksAhead 0 = .ok (.iconst 0, 1) := by decide +kernel
theorem dX11_lacksAhead_1 : decode cX11_lacksAhead 1 = .ok (.istore_n 1, 1) := by decide +kernel
theorem dX11_lacksAhead_2 : decode cX11_lacksAhead 2 = .ok (.iconst 0, 1) := by decide +kernel
theorem dX11_lacksAhead_3 : decode cX11_lacksAhead 3 = .ok (.istore_n 2, 1) := by decide +kernel
theorem dX11_lacksAhead_4 : decode cX11_lacksAhead 4 = .ok (.iload_n 2, 1) := by decide +kernel
theorem dX11_lacksAhead_5 : decode cX11_lacksAhead 5 = .ok (.aload_n 0, 1) := by decide +kernel
theorem dX11_lacksAhead_6 : decode cX11_lacksAhead 6 = .ok (.getfield 29, 3) := by decide +kernel
theorem dX11_lacksAhead_9 : decode cX11_lacksAhead 9 = .ok (.getfield 110, 3) := by decide +kernel
theorem dX11_lacksAhead_12 : decode cX11_lacksAhead 12 = .ok (.if_icmp .ge 24, 3) := by decide +kernel
theorem dX11_lacksAhead_15 : decode cX11_lacksAhead 15 = .ok (.iload_n 1, 1) := by decide +kernel
theorem dX11_lacksAhead_16 : decode cX11_lacksAhead 16 = .ok (.aload_n 0, 1) := by decide +kernel
theorem dX11_lacksAhead_17 : decode cX11_lacksAhead 17 = .ok (.getfield 29, 3) := by decide +kernel
theorem dX11_lacksAhead_20 : decode cX11_lacksAhead 20 = .ok (.aload_n 0, 1) := by decide +kernel
theorem dX11_lacksAhead_21 : decode cX11_lacksAhead 21 = .ok (.getfield 43, 3) := by decide +kernel
theorem dX11_lacksAhead_24 : decode cX11_lacksAhead 24 = .ok (.iload_n 2, 1) := by decide +kernel
theorem dX11_lacksAhead_25 : decode cX11_lacksAhead 25 = .ok (.invokevirtual 148, 3) := by decide +kernel
theorem dX11_lacksAhead_28 : decode cX11_lacksAhead 28 = .ok (.iadd, 1) := by decide +kernel
theorem dX11_lacksAhead_29 : decode cX11_lacksAhead 29 = .ok (.istore_n 1, 1) := by decide +kernel
theorem dX11_lacksAhead_30 : decode cX11_lacksAhead 30 = .ok (.iinc 2 1, 3) := by decide +kernel
theorem dX11_lacksAhead_33 : decode cX11_lacksAhead 33 = .ok (.goto (-29), 3) := by decide +kernel
theorem dX11_lacksAhead_36 : decode cX11_lacksAhead 36 = .ok (.iload_n 1, 1) := by decide +kernel
theorem dX11_lacksAhead_37 : decode cX11_lacksAhead 37 = .ok (.ireturn, 1) := by decide +kernel
theorem dX11_let_0 : decode cX11_let 0 = .ok (.aload_n 0, 1) := by decide +kernel
theorem dX11_let_1 : decode cX11_let 1 = .ok (.getfield 56, 3) := by decide +kernel
theorem dX11_let_4 : decode cX11_let 4 = .ok (.invokevirtual 109, 3) := by decide +kernel
theorem dX11_let_7 : decode cX11_let 7 = .ok (.aload_n 0, 1) := by decide +kernel
theorem dX11_let_8 : decode cX11_let 8 = .ok (.getfield 29, 3) := by decide +kernel
theorem dX11_let_11 : decode cX11_let 11 = .ok (.getfield 110, 3) := by decide +kernel
theorem dX11_let_14 : decode cX11_let 14 = .ok (.ifCond .ne 5, 3) := by decide +kernel
theorem dX11_let_17 : decode cX11_let 17 = .ok (.iconst (-1), 1) := by decide +kernel
theorem dX11_let_18 : decode cX11_let 18 = .ok (.ireturn, 1) := by decide +kernel
theorem dX11_let_19 : decode cX11_let 19 = .ok (.aload_n 0, 1) := by decide +kernel
theorem dX11_let_20 : decode cX11_let 20 = .ok (.getfield 84, 3) := by decide +kernel
theorem dX11_let_23 : decode cX11_let 23 = .ok (.aload_n 0, 1) := by decide +kernel
theorem dX11_let_24 : decode cX11_let 24 = .ok (.getfield 29, 3) := by decide +kernel
theorem dX11_let_27 : decode cX11_let 27 = .ok (.aload_n 0, 1) := by decide +kernel
theorem dX11_let_28 : decode cX11_let 28 = .ok (.getfield 56, 3) := by decide +kernel
theorem dX11_let_31 : decode cX11_let 31 = .ok (.invokevirtual 281, 3) := by decide +kernel
theorem dX11_let_34 : decode cX11_let 34 = .ok (.ireturn, 1) := by decide +kernel
theorem dX11_poorest_0 : decode cX11_poorest 0 = .ok (.iconst (-1), 1) := by decide +kernel
theorem dX11_poorest_1 : decode cX11_poorest 1 = .ok (.istore_n 1, 1) := by decide +kernel
theorem dX11_poorest_2 : decode cX11_poorest 2 = .ok (.iconst (-1), 1) := by decide +kernel
theorem dX11_poorest_3 : decode cX11_poorest 3 = .ok (.istore_n 2, 1) := by decide +kernel
theorem dX11_poorest_4 : decode cX11_poorest 4 = .ok (.iconst 0, 1) := by decide +kernel
theorem dX11_poorest_5 : decode cX11_poorest 5 = .ok (.istore_n 3, 1) := by decide +kernel
theorem dX11_poorest_6 : decode cX11_poorest 6 = .ok (.iload_n 3, 1) := by decide +kernel
theorem dX11_poorest_7 : decode cX11_poorest 7 = .ok (.aload_n 0, 1) := by decide +kernel
theorem dX11_poorest_8 : decode cX11_poorest 8 = .ok (.getfield 29, 3) := by decide +kernel
theorem dX11_poorest_11 : decode cX11_poorest 11 = .ok (.getfield 110, 3) := by decide +kernel
theorem dX11_poorest_14 : decode cX11_poorest 14 = .ok (.if_icmp .ge 34, 3) := by decide +kernel
theorem dX11_poorest_17 : decode cX11_poorest 17 = .ok (.aload_n 0, 1) := by decide +kernel
theorem dX11_poorest_18 : decode cX11_poorest 18 = .ok (.getfield 29, 3) := by decide +kernel
theorem dX11_poorest_21 : decode cX11_poorest 21 = .ok (.aload_n 0, 1) := by decide +kernel
theorem dX11_poorest_22 : decode cX11_poorest 22 = .ok (.getfield 39, 3) := by decide +kernel
theorem dX11_poorest_25 : decode cX11_poorest 25 = .ok (.iload_n 3, 1) := by decide +kernel
theorem dX11_poorest_26 : decode cX11_poorest 26 = .ok (.invokevirtual 148, 3) := by decide +kernel
theorem dX11_poorest_29 : decode cX11_poorest 29 = .ok (.istore 4, 2) := by decide +kernel
theorem dX11_poorest_31 : decode cX11_poorest 31 = .ok (.iload 4, 2) := by decide +kernel
theorem dX11_poorest_33 : decode cX11_poorest 33 = .ok (.iload_n 2, 1) := by decide +kernel
theorem dX11_poorest_34 : decode cX11_poorest 34 = .ok (.if_icmp .le 8, 3) := by decide +kernel
theorem dX11_poorest_37 : decode cX11_poorest 37 = .ok (.iload 4, 2) := by decide +kernel
theorem dX11_poorest_39 : decode cX11_poorest 39 = .ok (.istore_n 2, 1) := by decide +kernel
theorem dX11_poorest_40 : decode cX11_poorest 40 = .ok (.iload_n 3, 1) := by decide +kernel
theorem dX11_poorest_41 : decode cX11_poorest 41 = .ok (.istore_n 1, 1) := by decide +kernel
theorem dX11_poorest_42 : decode cX11_poorest 42 = .ok (.iinc 3 1, 3) := by decide +kernel
theorem dX11_poorest_45 : decode cX11_poorest 45 = .ok (.goto (-39), 3) := by decide +kernel
theorem dX11_poorest_48 : decode cX11_poorest 48 = .ok (.iload_n 1, 1) := by decide +kernel
theorem dX11_poorest_49 : decode cX11_poorest 49 = .ok (.ireturn, 1) := by decide +kernel
theorem dX11_owing_0 : decode cX11_owing 0 = .ok (.iconst 0, 1) := by decide +kernel
theorem dX11_owing_1 : decode cX11_owing 1 = .ok (.istore_n 1, 1) := by decide +kernel
theorem dX11_owing_2 : decode cX11_owing 2 = .ok (.iconst 0, 1) := by decide +kernel
theorem dX11_owing_3 : decode cX11_owing 3 = .ok (.istore_n 2, 1) := by decide +kernel
theorem dX11_owing_4 : decode cX11_owing 4 = .ok (.iload_n 2, 1) := by decide +kernel
theorem dX11_owing_5 : decode cX11_owing 5 = .ok (.aload_n 0, 1) := by decide +kernel
theorem dX11_owing_6 : decode cX11_owing 6 = .ok (.getfield 29, 3) := by decide +kernel
theorem dX11_owing_9 : decode cX11_owing 9 = .ok (.getfield 110, 3) := by decide +kernel
theorem dX11_owing_12 : decode cX11_owing 12 = .ok (.if_icmp .ge 30, 3) := by decide +kernel
theorem dX11_owing_15 : decode cX11_owing 15 = .ok (.aload_n 0, 1) := by decide +kernel
theorem dX11_owing_16 : decode cX11_owing 16 = .ok (.getfield 29, 3) := by decide +kernel
theorem dX11_owing_19 : decode cX11_owing 19 = .ok (.aload_n 0, 1) := by decide +kernel
theorem dX11_owing_20 : decode cX11_owing 20 = .ok (.getfield 39, 3) := by decide +kernel
theorem dX11_owing_23 : decode cX11_owing 23 = .ok (.iload_n 2, 1) := by decide +kernel
theorem dX11_owing_24 : decode cX11_owing 24 = .ok (.invokevirtual 148, 3) := by decide +kernel
theorem dX11_owing_27 : decode cX11_owing 27 = .ok (.ifCond .le 9, 3) := by decide +kernel
theorem dX11_owing_30 : decode cX11_owing 30 = .ok (.iload_n 1, 1) := by decide +kernel
theorem dX11_owing_31 : decode cX11_owing 31 = .ok (.iconst 1, 1) := by decide +kernel
theorem dX11_owing_32 : decode cX11_owing 32 = .ok (.iload_n 2, 1) := by decide +kernel
theorem dX11_owing_33 : decode cX11_owing 33 = .ok (.ishl, 1) := by decide +kernel
theorem dX11_owing_34 : decode cX11_owing 34 = .ok (.ior, 1) := by decide +kernel
theorem dX11_owing_35 : decode cX11_owing 35 = .ok (.istore_n 1, 1) := by decide +kernel
theorem dX11_owing_36 : decode cX11_owing 36 = .ok (.iinc 2 1, 3) := by decide +kernel
theorem dX11_owing_39 : decode cX11_owing 39 = .ok (.goto (-35), 3) := by decide +kernel
theorem dX11_owing_42 : decode cX11_owing 42 = .ok (.iload_n 1, 1) := by decide +kernel
theorem dX11_owing_43 : decode cX11_owing 43 = .ok (.ireturn, 1) := by decide +kernel
theorem dX11_law_0 : decode cX11_law 0 = .ok (.iload_n 1, 1) := by decide +kernel
theorem dX11_law_1 : decode cX11_law 1 = .ok (.sipush (-999), 3) := by decide +kernel
theorem dX11_law_4 : decode cX11_law 4 = .ok (.if_icmp .lt 10, 3) := by decide +kernel
theorem dX11_law_7 : decode cX11_law 7 = .ok (.iload_n 1, 1) := by decide +kernel
theorem dX11_law_8 : decode cX11_law 8 = .ok (.sipush 999, 3) := by decide +kernel
theorem dX11_law_11 : decode cX11_law 11 = .ok (.if_icmp .le 5, 3) := by decide +kernel
theorem dX11_law_14 : decode cX11_law 14 = .ok (.iconst (-1), 1) := by decide +kernel
theorem dX11_law_15 : decode cX11_law 15 = .ok (.ireturn, 1) := by decide +kernel
theorem dX11_law_16 : decode cX11_law 16 = .ok (.iconst 0, 1) := by decide +kernel
theorem dX11_law_17 : decode cX11_law 17 = .ok (.istore_n 2, 1) := by decide +kernel
theorem dX11_law_18 : decode cX11_law 18 = .ok (.iconst 0, 1) := by decide +kernel
theorem dX11_law_19 : decode cX11_law 19 = .ok (.istore_n 3, 1) := by decide +kernel
theorem dX11_law_20 : decode cX11_law 20 = .ok (.iload_n 3, 1) := by decide +kernel
theorem dX11_law_21 : decode cX11_law 21 = .ok (.aload_n 0, 1) := by decide +kernel
theorem dX11_law_22 : decode cX11_law 22 = .ok (.getfield 29, 3) := by decide +kernel
theorem dX11_law_25 : decode cX11_law 25 = .ok (.getfield 110, 3) := by decide +kernel
theorem dX11_law_28 : decode cX11_law 28 = .ok (.if_icmp .ge 53, 3) := by decide +kernel
theorem dX11_law_31 : decode cX11_law 31 = .ok (.iconst 0, 1) := by decide +kernel
theorem dX11_law_32 : decode cX11_law 32 = .ok (.aload_n 0, 1) := by decide +kernel
theorem dX11_law_33 : decode cX11_law 33 = .ok (.getfield 29, 3) := by decide +kernel
theorem dX11_law_36 : decode cX11_law 36 = .ok (.getfield 133, 3) := by decide +kernel
theorem dX11_law_39 : decode cX11_law 39 = .ok (.iload_n 3, 1) := by decide +kernel
theorem dX11_law_40 : decode cX11_law 40 = .ok (.iaload, 1) := by decide +kernel
theorem dX11_law_41 : decode cX11_law 41 = .ok (.iload_n 1, 1) := by decide +kernel
theorem dX11_law_42 : decode cX11_law 42 = .ok (.iadd, 1) := by decide +kernel
theorem dX11_law_43 : decode cX11_law 43 = .ok (.invokestatic 285, 3) := by decide +kernel
theorem dX11_law_46 : decode cX11_law 46 = .ok (.istore 4, 2) := by decide +kernel
theorem dX11_law_48 : decode cX11_law 48 = .ok (.iload 4, 2) := by decide +kernel
theorem dX11_law_50 : decode cX11_law 50 = .ok (.aload_n 0, 1) := by decide +kernel
theorem dX11_law_51 : decode cX11_law 51 = .ok (.getfield 39, 3) := by decide +kernel
theorem dX11_law_54 : decode cX11_law 54 = .ok (.getfield 145, 3) := by decide +kernel
theorem dX11_law_57 : decode cX11_law 57 = .ok (.iload_n 3, 1) := by decide +kernel
theorem dX11_law_58 : decode cX11_law 58 = .ok (.iaload, 1) := by decide +kernel
theorem dX11_law_59 : decode cX11_law 59 = .ok (.iadd, 1) := by decide +kernel
theorem dX11_law_60 : decode cX11_law 60 = .ok (.aload_n 0, 1) := by decide +kernel
theorem dX11_law_61 : decode cX11_law 61 = .ok (.getfield 39, 3) := by decide +kernel
theorem dX11_law_64 : decode cX11_law 64 = .ok (.getfield 142, 3) := by decide +kernel
theorem dX11_law_67 : decode cX11_law 67 = .ok (.iload_n 3, 1) := by decide +kernel
theorem dX11_law_68 : decode cX11_law 68 = .ok (.iaload, 1) := by decide +kernel
theorem dX11_law_69 : decode cX11_law 69 = .ok (.if_icmp .le 6, 3) := by decide +kernel
theorem dX11_law_72 : decode cX11_law 72 = .ok (.iinc 2 1, 3) := by decide +kernel
theorem dX11_law_75 : decode cX11_law 75 = .ok (.iinc 3 1, 3) := by decide +kernel
theorem dX11_law_78 : decode cX11_law 78 = .ok (.goto (-58), 3) := by decide +kernel
theorem dX11_law_81 : decode cX11_law 81 = .ok (.iload_n 2, 1) := by decide +kernel
theorem dX11_law_82 : decode cX11_law 82 = .ok (.ireturn, 1) := by decide +kernel
theorem dX11_team_0 : decode cX11_team 0 = .ok (.iload_n 1, 1) := by decide +kernel
theorem dX11_team_1 : decode cX11_team 1 = .ok (.ifCond .lt 19, 3) := by decide +kernel
theorem dX11_team_4 : decode cX11_team 4 = .ok (.iload_n 1, 1) := by decide +kernel
theorem dX11_team_5 : decode cX11_team 5 = .ok (.sipush 400, 3) := by decide +kernel
theorem dX11_team_8 : decode cX11_team 8 = .ok (.if_icmp .gt 12, 3) := by decide +kernel
theorem dX11_team_11 : decode cX11_team 11 = .ok (.iload_n 2, 1) := by decide +kernel
theorem dX11_team_12 : decode cX11_team 12 = .ok (.ifCond .lt 8, 3) := by decide +kernel
theorem dX11_team_15 : decode cX11_team 15 = .ok (.iload_n 2, 1) := by decide +kernel
theorem dX11_team_16 : decode cX11_team 16 = .ok (.iconst 1, 1) := by decide +kernel
theorem dX11_team_17 : decode cX11_team 17 = .ok (.if_icmp .le 5, 3) := by decide +kernel
theorem dX11_team_20 : decode cX11_team 20 = .ok (.iconst (-1), 1) := by decide +kernel
theorem dX11_team_21 : decode cX11_team 21 = .ok (.ireturn, 1) := by decide +kernel
theorem dX11_team_22 : decode cX11_team 22 = .ok (.iconst (-1), 1) := by decide +kernel
theorem dX11_team_23 : decode cX11_team 23 = .ok (.istore_n 3, 1) := by decide +kernel
theorem dX11_team_24 : decode cX11_team 24 = .ok (.bipush 9, 2) := by decide +kernel
theorem dX11_team_26 : decode cX11_team 26 = .ok (.istore 4, 2) := by decide +kernel
theorem dX11_team_28 : decode cX11_team 28 = .ok (.iconst 0, 1) := by decide +kernel
theorem dX11_team_29 : decode cX11_team 29 = .ok (.istore 5, 2) := by decide +kernel
theorem dX11_team_31 : decode cX11_team 31 = .ok (.iload 5, 2) := by decide +kernel
theorem dX11_team_33 : decode cX11_team 33 = .ok (.iconst 1, 1) := by decide +kernel
theorem dX11_team_34 : decode cX11_team 34 = .ok (.aload_n 0, 1) := by decide +kernel
theorem dX11_team_35 : decode cX11_team 35 = .ok (.getfield 29, 3) := by decide +kernel
theorem dX11_team_38 : decode cX11_team 38 = .ok (.getfield 110, 3) := by decide +kernel
theorem dX11_team_41 : decode cX11_team 41 = .ok (.ishl, 1) := by decide +kernel
theorem dX11_team_42 : decode cX11_team 42 = .ok (.if_icmp .ge 40, 3) := by decide +kernel
theorem dX11_team_45 : decode cX11_team 45 = .ok (.iload 5, 2) := by decide +kernel
theorem dX11_team_47 : decode cX11_team 47 = .ok (.invokestatic 288, 3) := by decide +kernel
theorem dX11_team_50 : decode cX11_team 50 = .ok (.istore 6, 2) := by decide +kernel
theorem dX11_team_52 : decode cX11_team 52 = .ok (.iload 6, 2) := by decide +kernel
theorem dX11_team_54 : decode cX11_team 54 = .ok (.iload 4, 2) := by decide +kernel
theorem dX11_team_56 : decode cX11_team 56 = .ok (.if_icmp .ge 20, 3) := by decide +kernel
theorem dX11_team_59 : decode cX11_team 59 = .ok (.aload_n 0, 1) := by decide +kernel
theorem dX11_team_60 : decode cX11_team 60 = .ok (.iload 5, 2) := by decide +kernel
theorem dX11_team_62 : decode cX11_team 62 = .ok (.invokevirtual 293, 3) := by decide +kernel
theorem dX11_team_65 : decode cX11_team 65 = .ok (.iload_n 1, 1) := by decide +kernel
theorem dX11_team_66 : decode cX11_team 66 = .ok (.if_icmp .lt 10, 3) := by decide +kernel
theorem dX11_team_69 : decode cX11_team 69 = .ok (.iload 5, 2) := by decide +kernel
theorem dX11_team_71 : decode cX11_team 71 = .ok (.istore_n 3, 1) := by decide +kernel
theorem dX11_team_72 : decode cX11_team 72 = .ok (.iload 6, 2) := by decide +kernel
theorem dX11_team_74 : decode cX11_team 74 = .ok (.istore 4, 2) := by decide +kernel
theorem dX11_team_76 : decode cX11_team 76 = .ok (.iinc 5 1, 3) := by decide +kernel
theorem dX11_team_79 : decode cX11_team 79 = .ok (.goto (-48), 3) := by decide +kernel
theorem dX11_team_82 : decode cX11_team 82 = .ok (.iload_n 3, 1) := by decide +kernel
theorem dX11_team_83 : decode cX11_team 83 = .ok (.iconst (-1), 1) := by decide +kernel
theorem dX11_team_84 : decode cX11_team 84 = .ok (.if_icmp .ne 5, 3) := by decide +kernel
theorem dX11_team_87 : decode cX11_team 87 = .ok (.iconst (-1), 1) := by decide +kernel
theorem dX11_team_88 : decode cX11_team 88 = .ok (.ireturn, 1) := by decide +kernel
theorem dX11_team_89 : decode cX11_team 89 = .ok (.iload_n 2, 1) := by decide +kernel
theorem dX11_team_90 : decode cX11_team 90 = .ok (.ifCond .ne 8, 3) := by decide +kernel
theorem dX11_team_93 : decode cX11_team 93 = .ok (.iload 4, 2) := by decide +kernel
theorem dX11_team_95 : decode cX11_team 95 = .ok (.goto 4, 3) := by decide +kernel
theorem dX11_team_98 : decode cX11_team 98 = .ok (.iload_n 3, 1) := by decide +kernel
theorem dX11_team_99 : decode cX11_team 99 = .ok (.ireturn, 1) := by decide +kernel
theorem dX11_breathTogether_0 : decode cX11_breathTogether 0 = .ok (.iconst 0, 1) := by decide +kernel
theorem dX11_breathTogether_1 : decode cX11_breathTogether 1 = .ok (.istore_n 2, 1) := by decide +kernel
theorem dX11_breathTogether_2 : decode cX11_breathTogether 2 = .ok (.iconst 0, 1) := by decide +kernel
theorem dX11_breathTogether_3 : decode cX11_breathTogether 3 = .ok (.istore_n 3, 1) := by decide +kernel
theorem dX11_breathTogether_4 : decode cX11_breathTogether 4 = .ok (.iload_n 3, 1) := by decide +kernel
theorem dX11_breathTogether_5 : decode cX11_breathTogether 5 = .ok (.aload_n 0, 1) := by decide +kernel
theorem dX11_breathTogether_6 : decode cX11_breathTogether 6 = .ok (.getfield 29, 3) := by decide +kernel
theorem dX11_breathTogether_9 : decode cX11_breathTogether 9 = .ok (.getfield 110, 3) := by decide +kernel
theorem dX11_breathTogether_12 : decode cX11_breathTogether 12 = .ok (.if_icmp .ge 30, 3) := by decide +kernel
theorem dX11_breathTogether_15 : decode cX11_breathTogether 15 = .ok (.iload_n 1, 1) := by decide +kernel
theorem dX11_breathTogether_16 : decode cX11_breathTogether 16 = .ok (.iload_n 3, 1) := by decide +kernel
theorem dX11_breathTogether_17 : decode cX11_breathTogether 17 = .ok (.ishr, 1) := by decide +kernel
theorem dX11_breathTogether_18 : decode cX11_breathTogether 18 = .ok (.iconst 1, 1) := by decide +kernel
theorem dX11_breathTogether_19 : decode cX11_breathTogether 19 = .ok (.iand, 1) := by decide +kernel
theorem dX11_breathTogether_20 : decode cX11_breathTogether 20 = .ok (.iconst 1, 1) := by decide +kernel
theorem dX11_breathTogether_21 : decode cX11_breathTogether 21 = .ok (.if_icmp .ne 15, 3) := by decide +kernel
theorem dX11_breathTogether_24 : decode cX11_breathTogether 24 = .ok (.iload_n 2, 1) := by decide +kernel
theorem dX11_breathTogether_25 : decode cX11_breathTogether 25 = .ok (.aload_n 0, 1) := by decide +kernel
theorem dX11_breathTogether_26 : decode cX11_breathTogether 26 = .ok (.getfield 39, 3) := by decide +kernel
theorem dX11_breathTogether_29 : decode cX11_breathTogether 29 = .ok (.getfield 139, 3) := by decide +kernel
theorem dX11_breathTogether_32 : decode cX11_breathTogether 32 = .ok (.iload_n 3, 1) := by decide +kernel
theorem dX11_breathTogether_33 : decode cX11_breathTogether 33 = .ok (.iaload, 1) := by decide +kernel
theorem dX11_breathTogether_34 : decode cX11_breathTogether 34 = .ok (.iadd, 1) := by decide +kernel
theorem dX11_breathTogether_35 : decode cX11_breathTogether 35 = .ok (.istore_n 2, 1) := by decide +kernel
theorem dX11_breathTogether_36 : decode cX11_breathTogether 36 = .ok (.iinc 3 1, 3) := by decide +kernel
theorem dX11_breathTogether_39 : decode cX11_breathTogether 39 = .ok (.goto (-35), 3) := by decide +kernel
theorem dX11_breathTogether_42 : decode cX11_breathTogether 42 = .ok (.iload_n 2, 1) := by decide +kernel
theorem dX11_breathTogether_43 : decode cX11_breathTogether 43 = .ok (.ireturn, 1) := by decide +kernel
theorem dX11_quarrel_0 : decode cX11_quarrel 0 = .ok (.aload_n 0, 1) := by decide +kernel
theorem dX11_quarrel_1 : decode cX11_quarrel 1 = .ok (.getfield 29, 3) := by decide +kernel
theorem dX11_quarrel_4 : decode cX11_quarrel 4 = .ok (.iconst (-1), 1) := by decide +kernel
theorem dX11_quarrel_5 : decode cX11_quarrel 5 = .ok (.iconst (-1), 1) := by decide +kernel
theorem dX11_quarrel_6 : decode cX11_quarrel 6 = .ok (.invokevirtual 296, 3) := by decide +kernel
theorem dX11_quarrel_9 : decode cX11_quarrel 9 = .ok (.ireturn, 1) := by decide +kernel
theorem dX11_calm_0 : decode cX11_calm 0 = .ok (.iload_n 1, 1) := by decide +kernel
theorem dX11_calm_1 : decode cX11_calm 1 = .ok (.ifCond .lt 8, 3) := by decide +kernel
theorem dX11_calm_4 : decode cX11_calm 4 = .ok (.iload_n 1, 1) := by decide +kernel
theorem dX11_calm_5 : decode cX11_calm 5 = .ok (.iconst 2, 1) := by decide +kernel
theorem dX11_calm_6 : decode cX11_calm 6 = .ok (.if_icmp .le 5, 3) := by decide +kernel
theorem dX11_calm_9 : decode cX11_calm 9 = .ok (.iconst (-1), 1) := by decide +kernel
theorem dX11_calm_10 : decode cX11_calm 10 = .ok (.ireturn, 1) := by decide +kernel
theorem dX11_calm_11 : decode cX11_calm 11 = .ok (.iconst (-1), 1) := by decide +kernel
theorem dX11_calm_12 : decode cX11_calm 12 = .ok (.istore_n 2, 1) := by decide +kernel
theorem dX11_calm_13 : decode cX11_calm 13 = .ok (.iconst (-1), 1) := by decide +kernel
theorem dX11_calm_14 : decode cX11_calm 14 = .ok (.istore_n 3, 1) := by decide +kernel
theorem dX11_calm_15 : decode cX11_calm 15 = .ok (.aload_n 0, 1) := by decide +kernel
theorem dX11_calm_16 : decode cX11_calm 16 = .ok (.getfield 29, 3) := by decide +kernel
theorem dX11_calm_19 : decode cX11_calm 19 = .ok (.iconst (-1), 1) := by decide +kernel
theorem dX11_calm_20 : decode cX11_calm 20 = .ok (.iconst (-1), 1) := by decide +kernel
theorem dX11_calm_21 : decode cX11_calm 21 = .ok (.invokevirtual 296, 3) := by decide +kernel
theorem dX11_calm_24 : decode cX11_calm 24 = .ok (.istore 4, 2) := by decide +kernel
theorem dX11_calm_26 : decode cX11_calm 26 = .ok (.iconst 0, 1) := by decide +kernel
theorem dX11_calm_27 : decode cX11_calm 27 = .ok (.istore 5, 2) := by decide +kernel
theorem dX11_calm_29 : decode cX11_calm 29 = .ok (.iload 5, 2) := by decide +kernel
theorem dX11_calm_31 : decode cX11_calm 31 = .ok (.aload_n 0, 1) := by decide +kernel
theorem dX11_calm_32 : decode cX11_calm 32 = .ok (.getfield 29, 3) := by decide +kernel
theorem dX11_calm_35 : decode cX11_calm 35 = .ok (.getfield 110, 3) := by decide +kernel
theorem dX11_calm_38 : decode cX11_calm 38 = .ok (.if_icmp .ge 63, 3) := by decide +kernel
theorem dX11_calm_41 : decode cX11_calm 41 = .ok (.iload 5, 2) := by decide +kernel
theorem dX11_calm_43 : decode cX11_calm 43 = .ok (.iconst 1, 1) := by decide +kernel
theorem dX11_calm_44 : decode cX11_calm 44 = .ok (.iadd, 1) := by decide +kernel
theorem dX11_calm_45 : decode cX11_calm 45 = .ok (.istore 6, 2) := by decide +kernel
theorem dX11_calm_47 : decode cX11_calm 47 = .ok (.iload 6, 2) := by decide +kernel
theorem dX11_calm_49 : decode cX11_calm 49 = .ok (.aload_n 0, 1) := by decide +kernel
theorem dX11_calm_50 : decode cX11_calm 50 = .ok (.getfield 29, 3) := by decide +kernel
theorem dX11_calm_53 : decode cX11_calm 53 = .ok (.getfield 110, 3) := by decide +kernel
theorem dX11_calm_56 : decode cX11_calm 56 = .ok (.if_icmp .ge 39, 3) := by decide +kernel
theorem dX11_calm_59 : decode cX11_calm 59 = .ok (.aload_n 0, 1) := by decide +kernel
theorem dX11_calm_60 : decode cX11_calm 60 = .ok (.getfield 29, 3) := by decide +kernel
theorem dX11_calm_63 : decode cX11_calm 63 = .ok (.iload 5, 2) := by decide +kernel
theorem dX11_calm_65 : decode cX11_calm 65 = .ok (.iload 6, 2) := by decide +kernel
theorem dX11_calm_67 : decode cX11_calm 67 = .ok (.invokevirtual 296, 3) := by decide +kernel
theorem dX11_calm_70 : decode cX11_calm 70 = .ok (.istore 7, 2) := by decide +kernel
theorem dX11_calm_72 : decode cX11_calm 72 = .ok (.iload 7, 2) := by decide +kernel
theorem dX11_calm_74 : decode cX11_calm 74 = .ok (.iload 4, 2) := by decide +kernel
theorem dX11_calm_76 : decode cX11_calm 76 = .ok (.if_icmp .ge 13, 3) := by decide +kernel
theorem dX11_calm_79 : decode cX11_calm 79 = .ok (.iload 7, 2) := by decide +kernel
theorem dX11_calm_81 : decode cX11_calm 81 = .ok (.istore 4, 2) := by decide +kernel
theorem dX11_calm_83 : decode cX11_calm 83 = .ok (.iload 5, 2) := by decide +kernel
theorem dX11_calm_85 : decode cX11_calm 85 = .ok (.istore_n 2, 1) := by decide +kernel
theorem dX11_calm_86 : decode cX11_calm 86 = .ok (.iload 6, 2) := by decide +kernel
theorem dX11_calm_88 : decode cX11_calm 88 = .ok (.istore_n 3, 1) := by decide +kernel
theorem dX11_calm_89 : decode cX11_calm 89 = .ok (.iinc 6 1, 3) := by decide +kernel
theorem dX11_calm_92 : decode cX11_calm 92 = .ok (.goto (-45), 3) := by decide +kernel
theorem dX11_calm_95 : decode cX11_calm 95 = .ok (.iinc 5 1, 3) := by decide +kernel
theorem dX11_calm_98 : decode cX11_calm 98 = .ok (.goto (-69), 3) := by decide +kernel
theorem dX11_calm_101 : decode cX11_calm 101 = .ok (.iload_n 2, 1) := by decide +kernel
theorem dX11_calm_102 : decode cX11_calm 102 = .ok (.iconst (-1), 1) := by decide +kernel
theorem dX11_calm_103 : decode cX11_calm 103 = .ok (.if_icmp .ne 5, 3) := by decide +kernel
theorem dX11_calm_106 : decode cX11_calm 106 = .ok (.iconst (-1), 1) := by decide +kernel
theorem dX11_calm_107 : decode cX11_calm 107 = .ok (.ireturn, 1) := by decide +kernel
theorem dX11_calm_108 : decode cX11_calm 108 = .ok (.iload_n 1, 1) := by decide +kernel
theorem dX11_calm_109 : decode cX11_calm 109 = .ok (.ifCond .ne 5, 3) := by decide +kernel
theorem dX11_calm_112 : decode cX11_calm 112 = .ok (.iload_n 2, 1) := by decide +kernel
theorem dX11_calm_113 : decode cX11_calm 113 = .ok (.ireturn, 1) := by decide +kernel
theorem dX11_calm_114 : decode cX11_calm 114 = .ok (.iload_n 1, 1) := by decide +kernel
theorem dX11_calm_115 : decode cX11_calm 115 = .ok (.iconst 1, 1) := by decide +kernel
theorem dX11_calm_116 : decode cX11_calm 116 = .ok (.if_icmp .ne 7, 3) := by decide +kernel
theorem dX11_calm_119 : decode cX11_calm 119 = .ok (.iload_n 3, 1) := by decide +kernel
theorem dX11_calm_120 : decode cX11_calm 120 = .ok (.goto 5, 3) := by decide +kernel
theorem dX11_calm_123 : decode cX11_calm 123 = .ok (.iload 4, 2) := by decide +kernel
theorem dX11_calm_125 : decode cX11_calm 125 = .ok (.ireturn, 1) := by decide +kernel
theorem dX11_spread_0 : decode cX11_spread 0 = .ok (.aload_n 0, 1) := by decide +kernel
theorem dX11_spread_1 : decode cX11_spread 1 = .ok (.getfield 29, 3) := by decide +kernel
theorem dX11_spread_4 : decode cX11_spread 4 = .ok (.getfield 110, 3) := by decide +kernel
theorem dX11_spread_7 : decode cX11_spread 7 = .ok (.ifCond .ne 5, 3) := by decide +kernel
theorem dX11_spread_10 : decode cX11_spread 10 = .ok (.iconst (-1), 1) := by decide +kernel
theorem dX11_spread_11 : decode cX11_spread 11 = .ok (.ireturn, 1) := by decide +kernel
theorem dX11_spread_12 : decode cX11_spread 12 = .ok (.sipush 1599, 3) := by decide +kernel
theorem dX11_spread_15 : decode cX11_spread 15 = .ok (.istore_n 1, 1) := by decide +kernel
theorem dX11_spread_16 : decode cX11_spread 16 = .ok (.iconst 0, 1) := by decide +kernel
theorem dX11_spread_17 : decode cX11_spread 17 = .ok (.istore_n 2, 1) := by decide +kernel
theorem dX11_spread_18 : decode cX11_spread 18 = .ok (.iconst 0, 1) := by decide +kernel
theorem dX11_spread_19 : decode cX11_spread 19 = .ok (.istore_n 3, 1) := by decide +kernel
theorem dX11_spread_20 : decode cX11_spread 20 = .ok (.iload_n 3, 1) := by decide +kernel
theorem dX11_spread_21 : decode cX11_spread 21 = .ok (.aload_n 0, 1) := by decide +kernel
theorem dX11_spread_22 : decode cX11_spread 22 = .ok (.getfield 29, 3) := by decide +kernel
theorem dX11_spread_25 : decode cX11_spread 25 = .ok (.getfield 110, 3) := by decide +kernel
theorem dX11_spread_28 : decode cX11_spread 28 = .ok (.if_icmp .ge 35, 3) := by decide +kernel
theorem dX11_spread_31 : decode cX11_spread 31 = .ok (.iload_n 1, 1) := by decide +kernel
theorem dX11_spread_32 : decode cX11_spread 32 = .ok (.aload_n 0, 1) := by decide +kernel
theorem dX11_spread_33 : decode cX11_spread 33 = .ok (.getfield 29, 3) := by decide +kernel
theorem dX11_spread_36 : decode cX11_spread 36 = .ok (.iload_n 3, 1) := by decide +kernel
theorem dX11_spread_37 : decode cX11_spread 37 = .ok (.invokevirtual 217, 3) := by decide +kernel
theorem dX11_spread_40 : decode cX11_spread 40 = .ok (.invokestatic 276, 3) := by decide +kernel
theorem dX11_spread_43 : decode cX11_spread 43 = .ok (.istore_n 1, 1) := by decide +kernel
theorem dX11_spread_44 : decode cX11_spread 44 = .ok (.iload_n 2, 1) := by decide +kernel
theorem dX11_spread_45 : decode cX11_spread 45 = .ok (.aload_n 0, 1) := by decide +kernel
theorem dX11_spread_46 : decode cX11_spread 46 = .ok (.getfield 29, 3) := by decide +kernel
theorem dX11_spread_49 : decode cX11_spread 49 = .ok (.iload_n 3, 1) := by decide +kernel
theorem dX11_spread_50 : decode cX11_spread 50 = .ok (.invokevirtual 217, 3) := by decide +kernel
theorem dX11_spread_53 : decode cX11_spread 53 = .ok (.invokestatic 285, 3) := by decide +kernel
theorem dX11_spread_56 : decode cX11_spread 56 = .ok (.istore_n 2, 1) := by decide +kernel
theorem dX11_spread_57 : decode cX11_spread 57 = .ok (.iinc 3 1, 3) := by decide +kernel
theorem dX11_spread_60 : decode cX11_spread 60 = .ok (.goto (-40), 3) := by decide +kernel
theorem dX11_spread_63 : decode cX11_spread 63 = .ok (.iload_n 2, 1) := by decide +kernel
theorem dX11_spread_64 : decode cX11_spread 64 = .ok (.iload_n 1, 1) := by decide +kernel
theorem dX11_spread_65 : decode cX11_spread 65 = .ok (.isub, 1) := by decide +kernel
theorem dX11_spread_66 : decode cX11_spread 66 = .ok (.ireturn, 1) := by decide +kernel
theorem dX11_live_0 : decode cX11_live 0 = .ok (.aload_n 0, 1) := by decide +kernel
theorem dX11_live_1 : decode cX11_live 1 = .ok (.getfield 29, 3) := by decide +kernel
theorem dX11_live_4 : decode cX11_live 4 = .ok (.iload_n 1, 1) := by decide +kernel
theorem dX11_live_5 : decode cX11_live 5 = .ok (.invokevirtual 299, 3) := by decide +kernel
theorem dX11_live_8 : decode cX11_live 8 = .ok (.ifCond .ne 5, 3) := by decide +kernel
theorem dX11_live_11 : decode cX11_live 11 = .ok (.iconst (-1), 1) := by decide +kernel
theorem dX11_live_12 : decode cX11_live 12 = .ok (.ireturn, 1) := by decide +kernel
theorem dX11_live_13 : decode cX11_live 13 = .ok (.iconst 0, 1) := by decide +kernel
theorem dX11_live_14 : decode cX11_live 14 = .ok (.istore_n 2, 1) := by decide +kernel
theorem dX11_live_15 : decode cX11_live 15 = .ok (.iconst 0, 1) := by decide +kernel
theorem dX11_live_16 : decode cX11_live 16 = .ok (.istore_n 3, 1) := by decide +kernel
theorem dX11_live_17 : decode cX11_live 17 = .ok (.iload_n 3, 1) := by decide +kernel
theorem dX11_live_18 : decode cX11_live 18 = .ok (.aload_n 0, 1) := by decide +kernel
theorem dX11_live_19 : decode cX11_live 19 = .ok (.getfield 29, 3) := by decide +kernel
theorem dX11_live_22 : decode cX11_live 22 = .ok (.getfield 110, 3) := by decide +kernel
theorem dX11_live_25 : decode cX11_live 25 = .ok (.if_icmp .ge 28, 3) := by decide +kernel
theorem dX11_live_28 : decode cX11_live 28 = .ok (.aload_n 0, 1) := by decide +kernel
theorem dX11_live_29 : decode cX11_live 29 = .ok (.getfield 29, 3) := by decide +kernel
theorem dX11_live_32 : decode cX11_live 32 = .ok (.getfield 123, 3) := by decide +kernel
theorem dX11_live_35 : decode cX11_live 35 = .ok (.iload_n 3, 1) := by decide +kernel
theorem dX11_live_36 : decode cX11_live 36 = .ok (.iaload, 1) := by decide +kernel
theorem dX11_live_37 : decode cX11_live 37 = .ok (.iload_n 1, 1) := by decide +kernel
theorem dX11_live_38 : decode cX11_live 38 = .ok (.if_icmp .ne 9, 3) := by decide +kernel
theorem dX11_live_41 : decode cX11_live 41 = .ok (.iload_n 2, 1) := by decide +kernel
theorem dX11_live_42 : decode cX11_live 42 = .ok (.iconst 1, 1) := by decide +kernel
theorem dX11_live_43 : decode cX11_live 43 = .ok (.iload_n 3, 1) := by decide +kernel
theorem dX11_live_44 : decode cX11_live 44 = .ok (.ishl, 1) := by decide +kernel
theorem dX11_live_45 : decode cX11_live 45 = .ok (.ior, 1) := by decide +kernel
theorem dX11_live_46 : decode cX11_live 46 = .ok (.istore_n 2, 1) := by decide +kernel
theorem dX11_live_47 : decode cX11_live 47 = .ok (.iinc 3 1, 3) := by decide +kernel
theorem dX11_live_50 : decode cX11_live 50 = .ok (.goto (-33), 3) := by decide +kernel
theorem dX11_live_53 : decode cX11_live 53 = .ok (.iload_n 2, 1) := by decide +kernel
theorem dX11_live_54 : decode cX11_live 54 = .ok (.ireturn, 1) := by decide +kernel
theorem dX11_lies_0 : decode cX11_lies 0 = .ok (.aload_n 0, 1) := by decide +kernel
theorem dX11_lies_1 : decode cX11_lies 1 = .ok (.getfield 56, 3) := by decide +kernel
theorem dX11_lies_4 : decode cX11_lies 4 = .ok (.iload_n 1, 1) := by decide +kernel
theorem dX11_lies_5 : decode cX11_lies 5 = .ok (.invokevirtual 302, 3) := by decide +kernel
theorem dX11_lies_8 : decode cX11_lies 8 = .ok (.ireturn, 1) := by decide +kernel
theorem dX11_rest_0 : decode cX11_rest 0 = .ok (.aload_n 0, 1) := by decide +kernel
theorem dX11_rest_1 : decode cX11_rest 1 = .ok (.getfield 43, 3) := by decide +kernel
theorem dX11_rest_4 : decode cX11_rest 4 = .ok (.aload_n 0, 1) := by decide +kernel
theorem dX11_rest_5 : decode cX11_rest 5 = .ok (.getfield 39, 3) := by decide +kernel
theorem dX11_rest_8 : decode cX11_rest 8 = .ok (.invokevirtual 232, 3) := by decide +kernel
theorem dX11_rest_11 : decode cX11_rest 11 = .ok (.iconst 0, 1) := by decide +kernel
theorem dX11_rest_12 : decode cX11_rest 12 = .ok (.istore_n 1, 1) := by decide +kernel
theorem dX11_rest_13 : decode cX11_rest 13 = .ok (.iload_n 1, 1) := by decide +kernel
theorem dX11_rest_14 : decode cX11_rest 14 = .ok (.bipush 60, 2) := by decide +kernel
theorem dX11_rest_16 : decode cX11_rest 16 = .ok (.if_icmp .gt 41, 3) := by decide +kernel
theorem dX11_rest_19 : decode cX11_rest 19 = .ok (.aload_n 0, 1) := by decide +kernel
theorem dX11_rest_20 : decode cX11_rest 20 = .ok (.getfield 43, 3) := by decide +kernel
theorem dX11_rest_23 : decode cX11_rest 23 = .ok (.getfield 192, 3) := by decide +kernel
theorem dX11_rest_26 : decode cX11_rest 26 = .ok (.istore_n 2, 1) := by decide +kernel
theorem dX11_rest_27 : decode cX11_rest 27 = .ok (.aload_n 0, 1) := by decide +kernel
theorem dX11_rest_28 : decode cX11_rest 28 = .ok (.getfield 29, 3) := by decide +kernel
theorem dX11_rest_31 : decode cX11_rest 31 = .ok (.aload_n 0, 1) := by decide +kernel
theorem dX11_rest_32 : decode cX11_rest 32 = .ok (.getfield 43, 3) := by decide +kernel
theorem dX11_rest_35 : decode cX11_rest 35 = .ok (.invokevirtual 189, 3) := by decide +kernel
theorem dX11_rest_38 : decode cX11_rest 38 = .ok (.aload_n 0, 1) := by decide +kernel
theorem dX11_rest_39 : decode cX11_rest 39 = .ok (.getfield 43, 3) := by decide +kernel
theorem dX11_rest_42 : decode cX11_rest 42 = .ok (.getfield 192, 3) := by decide +kernel
theorem dX11_rest_45 : decode cX11_rest 45 = .ok (.iload_n 2, 1) := by decide +kernel
theorem dX11_rest_46 : decode cX11_rest 46 = .ok (.if_icmp .ne 5, 3) := by decide +kernel
theorem dX11_rest_49 : decode cX11_rest 49 = .ok (.iload_n 1, 1) := by decide +kernel
theorem dX11_rest_50 : decode cX11_rest 50 = .ok (.ireturn, 1) := by decide +kernel
theorem dX11_rest_51 : decode cX11_rest 51 = .ok (.iinc 1 1, 3) := by decide +kernel
theorem dX11_rest_54 : decode cX11_rest 54 = .ok (.goto (-41), 3) := by decide +kernel
theorem dX11_rest_57 : decode cX11_rest 57 = .ok (.iconst (-1), 1) := by decide +kernel
theorem dX11_rest_58 : decode cX11_rest 58 = .ok (.ireturn, 1) := by decide +kernel
theorem dX11_will_0 : decode cX11_will 0 = .ok (.aload_n 0, 1) := by decide +kernel
theorem dX11_will_1 : decode cX11_will 1 = .ok (.iload_n 1, 1) := by decide +kernel
theorem dX11_will_2 : decode cX11_will 2 = .ok (.invokevirtual 305, 3) := by decide +kernel
theorem dX11_will_5 : decode cX11_will 5 = .ok (.ifCond .ne 5, 3) := by decide +kernel
theorem dX11_will_8 : decode cX11_will 8 = .ok (.iconst (-1), 1) := by decide +kernel
theorem dX11_will_9 : decode cX11_will 9 = .ok (.ireturn, 1) := by decide +kernel
theorem dX11_will_10 : decode cX11_will 10 = .ok (.aload_n 0, 1) := by decide +kernel
theorem dX11_will_11 : decode cX11_will 11 = .ok (.getfield 43, 3) := by decide +kernel
theorem dX11_will_14 : decode cX11_will 14 = .ok (.getfield 192, 3) := by decide +kernel
theorem dX11_will_17 : decode cX11_will 17 = .ok (.ireturn, 1) := by decide +kernel
theorem dX11_ruin_0 : decode cX11_ruin 0 = .ok (.aload_n 0, 1) := by decide +kernel
theorem dX11_ruin_1 : decode cX11_ruin 1 = .ok (.iload_n 1, 1) := by decide +kernel
theorem dX11_ruin_2 : decode cX11_ruin 2 = .ok (.invokevirtual 305, 3) := by decide +kernel
theorem dX11_ruin_5 : decode cX11_ruin 5 = .ok (.ifCond .ne 5, 3) := by decide +kernel
theorem dX11_ruin_8 : decode cX11_ruin 8 = .ok (.iconst (-1), 1) := by decide +kernel
theorem dX11_ruin_9 : decode cX11_ruin 9 = .ok (.ireturn, 1) := by decide +kernel
theorem dX11_ruin_10 : decode cX11_ruin 10 = .ok (.iconst 0, 1) := by decide +kernel
theorem dX11_ruin_11 : decode cX11_ruin 11 = .ok (.istore_n 2, 1) := by decide +kernel
theorem dX11_ruin_12 : decode cX11_ruin 12 = .ok (.iconst 0, 1) := by decide +kernel
theorem dX11_ruin_13 : decode cX11_ruin 13 = .ok (.istore_n 3, 1) := by decide +kernel
theorem dX11_ruin_14 : decode cX11_ruin 14 = .ok (.iload_n 3, 1) := by decide +kernel
theorem dX11_ruin_15 : decode cX11_ruin 15 = .ok (.aload_n 0, 1) := by decide +kernel
theorem dX11_ruin_16 : decode cX11_ruin 16 = .ok (.getfield 29, 3) := by decide +kernel
theorem dX11_ruin_19 : decode cX11_ruin 19 = .ok (.getfield 110, 3) := by decide +kernel
theorem dX11_ruin_22 : decode cX11_ruin 22 = .ok (.if_icmp .ge 21, 3) := by decide +kernel
theorem dX11_ruin_25 : decode cX11_ruin 25 = .ok (.iload_n 2, 1) := by decide +kernel
theorem dX11_ruin_26 : decode cX11_ruin 26 = .ok (.aload_n 0, 1) := by decide +kernel
theorem dX11_ruin_27 : decode cX11_ruin 27 = .ok (.getfield 43, 3) := by decide +kernel
theorem dX11_ruin_30 : decode cX11_ruin 30 = .ok (.getfield 145, 3) := by decide +kernel
theorem dX11_ruin_33 : decode cX11_ruin 33 = .ok (.iload_n 3, 1) := by decide +kernel
theorem dX11_ruin_34 : decode cX11_ruin 34 = .ok (.iaload, 1) := by decide +kernel
theorem dX11_ruin_35 : decode cX11_ruin 35 = .ok (.iadd, 1) := by decide +kernel
theorem dX11_ruin_36 : decode cX11_ruin 36 = .ok (.istore_n 2, 1) := by decide +kernel
theorem dX11_ruin_37 : decode cX11_ruin 37 = .ok (.iinc 3 1, 3) := by decide +kernel
theorem dX11_ruin_40 : decode cX11_ruin 40 = .ok (.goto (-26), 3) := by decide +kernel
theorem dX11_ruin_43 : decode cX11_ruin 43 = .ok (.iload_n 2, 1) := by decide +kernel
theorem dX11_ruin_44 : decode cX11_ruin 44 = .ok (.ireturn, 1) := by decide +kernel
theorem dX11_lookAhead_0 : decode cX11_lookAhead 0 = .ok (.iload_n 1, 1) := by decide +kernel
theorem dX11_lookAhead_1 : decode cX11_lookAhead 1 = .ok (.ifCond .lt 9, 3) := by decide +kernel
theorem dX11_lookAhead_4 : decode cX11_lookAhead 4 = .ok (.iload_n 1, 1) := by decide +kernel
theorem dX11_lookAhead_5 : decode cX11_lookAhead 5 = .ok (.bipush 60, 2) := by decide +kernel
theorem dX11_lookAhead_7 : decode cX11_lookAhead 7 = .ok (.if_icmp .le 5, 3) := by decide +kernel
theorem dX11_lookAhead_10 : decode cX11_lookAhead 10 = .ok (.iconst 0, 1) := by decide +kernel
theorem dX11_lookAhead_11 : decode cX11_lookAhead 11 = .ok (.ireturn, 1) := by decide +kernel
theorem dX11_lookAhead_12 : decode cX11_lookAhead 12 = .ok (.aload_n 0, 1) := by decide +kernel
theorem dX11_lookAhead_13 : decode cX11_lookAhead 13 = .ok (.getfield 43, 3) := by decide +kernel
theorem dX11_lookAhead_16 : decode cX11_lookAhead 16 = .ok (.aload_n 0, 1) := by decide +kernel
theorem dX11_lookAhead_17 : decode cX11_lookAhead 17 = .ok (.getfield 39, 3) := by decide +kernel
theorem dX11_lookAhead_20 : decode cX11_lookAhead 20 = .ok (.invokevirtual 232, 3) := by decide +kernel
theorem dX11_lookAhead_23 : decode cX11_lookAhead 23 = .ok (.iconst 0, 1) := by decide +kernel
theorem dX11_lookAhead_24 : decode cX11_lookAhead 24 = .ok (.istore_n 2, 1) := by decide +kernel
theorem dX11_lookAhead_25 : decode cX11_lookAhead 25 = .ok (.iload_n 2, 1) := by decide +kernel
theorem dX11_lookAhead_26 : decode cX11_lookAhead 26 = .ok (.iload_n 1, 1) := by decide +kernel
theorem dX11_lookAhead_27 : decode cX11_lookAhead 27 = .ok (.if_icmp .ge 20, 3) := by decide +kernel
theorem dX11_lookAhead_30 : decode cX11_lookAhead 30 = .ok (.aload_n 0, 1) := by decide +kernel
theorem dX11_lookAhead_31 : decode cX11_lookAhead 31 = .ok (.getfield 29, 3) := by decide +kernel
theorem dX11_lookAhead_34 : decode cX11_lookAhead 34 = .ok (.aload_n 0, 1) := by decide +kernel
theorem dX11_lookAhead_35 : decode cX11_lookAhead 35 = .ok (.getfield 43, 3) := by decide +kernel
theorem dX11_lookAhead_38 : decode cX11_lookAhead 38 = .ok (.invokevirtual 189, 3) := by decide +kernel
theorem dX11_lookAhead_41 : decode cX11_lookAhead 41 = .ok (.iinc 2 1, 3) := by decide +kernel
theorem dX11_lookAhead_44 : decode cX11_lookAhead 44 = .ok (.goto (-19), 3) := by decide +kernel
theorem dX11_lookAhead_47 : decode cX11_lookAhead 47 = .ok (.iconst 1, 1) := by decide +kernel
theorem dX11_lookAhead_48 : decode cX11_lookAhead 48 = .ok (.ireturn, 1) := by decide +kernel
theorem dX11_pull_0 : decode cX11_pull 0 = .ok (.aload_n 0, 1) := by decide +kernel
theorem dX11_pull_1 : decode cX11_pull 1 = .ok (.getfield 29, 3) := by decide +kernel
theorem dX11_pull_4 : decode cX11_pull 4 = .ok (.aload_n 0, 1) := by decide +kernel
theorem dX11_pull_5 : decode cX11_pull 5 = .ok (.getfield 39, 3) := by decide +kernel
theorem dX11_pull_8 : decode cX11_pull 8 = .ok (.aload_n 0, 1) := by decide +kernel
theorem dX11_pull_9 : decode cX11_pull 9 = .ok (.getfield 39, 3) := by decide +kernel
theorem dX11_pull_12 : decode cX11_pull 12 = .ok (.getfield 160, 3) := by decide +kernel
theorem dX11_pull_15 : decode cX11_pull 15 = .ok (.invokevirtual 308, 3) := by decide +kernel
theorem dX11_pull_18 : decode cX11_pull 18 = .ok (.ireturn, 1) := by decide +kernel
theorem dX11_lever_0 : decode cX11_lever 0 = .ok (.iconst 0, 1) := by decide +kernel
theorem dX11_lever_1 : decode cX11_lever 1 = .ok (.istore_n 1, 1) := by decide +kernel
theorem dX11_lever_2 : decode cX11_lever 2 = .ok (.iload_n 1, 1) := by decide +kernel
theorem dX11_lever_3 : decode cX11_lever 3 = .ok (.bipush 99, 2) := by decide +kernel
theorem dX11_lever_5 : decode cX11_lever 5 = .ok (.if_icmp .gt 41, 3) := by decide +kernel
theorem dX11_lever_8 : decode cX11_lever 8 = .ok (.aload_n 0, 1) := by decide +kernel
theorem dX11_lever_9 : decode cX11_lever 9 = .ok (.getfield 29, 3) := by decide +kernel
theorem dX11_lever_12 : decode cX11_lever 12 = .ok (.aload_n 0, 1) := by decide +kernel
theorem dX11_lever_13 : decode cX11_lever 13 = .ok (.getfield 39, 3) := by decide +kernel
theorem dX11_lever_16 : decode cX11_lever 16 = .ok (.aload_n 0, 1) := by decide +kernel
theorem dX11_lever_17 : decode cX11_lever 17 = .ok (.getfield 39, 3) := by decide +kernel
theorem dX11_lever_20 : decode cX11_lever 20 = .ok (.getfield 160, 3) := by decide +kernel
theorem dX11_lever_23 : decode cX11_lever 23 = .ok (.iload_n 1, 1) := by decide +kernel
theorem dX11_lever_24 : decode cX11_lever 24 = .ok (.iadd, 1) := by decide +kernel
theorem dX11_lever_25 : decode cX11_lever 25 = .ok (.invokevirtual 311, 3) := by decide +kernel
theorem dX11_lever_28 : decode cX11_lever 28 = .ok (.aload_n 0, 1) := by decide +kernel
theorem dX11_lever_29 : decode cX11_lever 29 = .ok (.getfield 39, 3) := by decide +kernel
theorem dX11_lever_32 : decode cX11_lever 32 = .ok (.getfield 192, 3) := by decide +kernel
theorem dX11_lever_35 : decode cX11_lever 35 = .ok (.if_icmp .le 5, 3) := by decide +kernel
theorem dX11_lever_38 : decode cX11_lever 38 = .ok (.iload_n 1, 1) := by decide +kernel
theorem dX11_lever_39 : decode cX11_lever 39 = .ok (.ireturn, 1) := by decide +kernel
theorem dX11_lever_40 : decode cX11_lever 40 = .ok (.iinc 1 1, 3) := by decide +kernel
theorem dX11_lever_43 : decode cX11_lever 43 = .ok (.goto (-41), 3) := by decide +kernel
theorem dX11_lever_46 : decode cX11_lever 46 = .ok (.iconst (-1), 1) := by decide +kernel
theorem dX11_lever_47 : decode cX11_lever 47 = .ok (.ireturn, 1) := by decide +kernel
theorem dX11_hover_0 : decode cX11_hover 0 = .ok (.iload_n 1, 1) := by decide +kernel
theorem dX11_hover_1 : decode cX11_hover 1 = .ok (.ifCond .lt 10, 3) := by decide +kernel
theorem dX11_hover_4 : decode cX11_hover 4 = .ok (.iload_n 1, 1) := by decide +kernel
theorem dX11_hover_5 : decode cX11_hover 5 = .ok (.sipush 999, 3) := by decide +kernel
theorem dX11_hover_8 : decode cX11_hover 8 = .ok (.if_icmp .le 5, 3) := by decide +kernel
theorem dX11_hover_11 : decode cX11_hover 11 = .ok (.iconst (-1), 1) := by decide +kernel
theorem dX11_hover_12 : decode cX11_hover 12 = .ok (.ireturn, 1) := by decide +kernel
theorem dX11_hover_13 : decode cX11_hover 13 = .ok (.aload_n 0, 1) := by decide +kernel
theorem dX11_hover_14 : decode cX11_hover 14 = .ok (.getfield 43, 3) := by decide +kernel
theorem dX11_hover_17 : decode cX11_hover 17 = .ok (.aload_n 0, 1) := by decide +kernel
theorem dX11_hover_18 : decode cX11_hover 18 = .ok (.getfield 39, 3) := by decide +kernel
theorem dX11_hover_21 : decode cX11_hover 21 = .ok (.invokevirtual 232, 3) := by decide +kernel
theorem dX11_hover_24 : decode cX11_hover 24 = .ok (.iconst 0, 1) := by decide +kernel
theorem dX11_hover_25 : decode cX11_hover 25 = .ok (.istore_n 2, 1) := by decide +kernel
theorem dX11_hover_26 : decode cX11_hover 26 = .ok (.iload_n 2, 1) := by decide +kernel
theorem dX11_hover_27 : decode cX11_hover 27 = .ok (.bipush 60, 2) := by decide +kernel
theorem dX11_hover_29 : decode cX11_hover 29 = .ok (.if_icmp .ge 28, 3) := by decide +kernel
theorem dX11_hover_32 : decode cX11_hover 32 = .ok (.aload_n 0, 1) := by decide +kernel
theorem dX11_hover_33 : decode cX11_hover 33 = .ok (.getfield 43, 3) := by decide +kernel
theorem dX11_hover_36 : decode cX11_hover 36 = .ok (.iload_n 1, 1) := by decide +kernel
theorem dX11_hover_37 : decode cX11_hover 37 = .ok (.putfield 160, 3) := by decide +kernel
theorem dX11_hover_40 : decode cX11_hover 40 = .ok (.aload_n 0, 1) := by decide +kernel
theorem dX11_hover_41 : decode cX11_hover 41 = .ok (.getfield 29, 3) := by decide +kernel
theorem dX11_hover_44 : decode cX11_hover 44 = .ok (.aload_n 0, 1) := by decide +kernel
theorem dX11_hover_45 : decode cX11_hover 45 = .ok (.getfield 43, 3) := by decide +kernel
theorem dX11_hover_48 : decode cX11_hover 48 = .ok (.invokevirtual 189, 3) := by decide +kernel
theorem dX11_hover_51 : decode cX11_hover 51 = .ok (.iinc 2 1, 3) := by decide +kernel
theorem dX11_hover_54 : decode cX11_hover 54 = .ok (.goto (-28), 3) := by decide +kernel
theorem dX11_hover_57 : decode cX11_hover 57 = .ok (.aload_n 0, 1) := by decide +kernel
theorem dX11_hover_58 : decode cX11_hover 58 = .ok (.getfield 43, 3) := by decide +kernel
theorem dX11_hover_61 : decode cX11_hover 61 = .ok (.getfield 192, 3) := by decide +kernel
theorem dX11_hover_64 : decode cX11_hover 64 = .ok (.ireturn, 1) := by decide +kernel
theorem dX11_chalk_0 : decode cX11_chalk 0 = .ok (.aload_n 0, 1) := by decide +kernel
theorem dX11_chalk_1 : decode cX11_chalk 1 = .ok (.getfield 29, 3) := by decide +kernel
theorem dX11_chalk_4 : decode cX11_chalk 4 = .ok (.iload_n 1, 1) := by decide +kernel
theorem dX11_chalk_5 : decode cX11_chalk 5 = .ok (.invokevirtual 299, 3) := by decide +kernel
theorem dX11_chalk_8 : decode cX11_chalk 8 = .ok (.ifCond .ne 5, 3) := by decide +kernel
theorem dX11_chalk_11 : decode cX11_chalk 11 = .ok (.iconst (-1), 1) := by decide +kernel
theorem dX11_chalk_12 : decode cX11_chalk 12 = .ok (.ireturn, 1) := by decide +kernel
theorem dX11_chalk_13 : decode cX11_chalk 13 = .ok (.aload_n 0, 1) := by decide +kernel
theorem dX11_chalk_14 : decode cX11_chalk 14 = .ok (.getfield 63, 3) := by decide +kernel
theorem dX11_chalk_17 : decode cX11_chalk 17 = .ok (.iconst 1, 1) := by decide +kernel
theorem dX11_chalk_18 : decode cX11_chalk 18 = .ok (.iload_n 1, 1) := by decide +kernel
theorem dX11_chalk_19 : decode cX11_chalk 19 = .ok (.iload_n 2, 1) := by decide +kernel
theorem dX11_chalk_20 : decode cX11_chalk 20 = .ok (.invokevirtual 314, 3) := by decide +kernel
theorem dX11_chalk_23 : decode cX11_chalk 23 = .ok (.ireturn, 1) := by decide +kernel
theorem dX11_tread_0 : decode cX11_tread 0 = .ok (.iload_n 1, 1) := by decide +kernel
theorem dX11_tread_1 : decode cX11_tread 1 = .ok (.ifCond .lt 9, 3) := by decide +kernel
theorem dX11_tread_4 : decode cX11_tread 4 = .ok (.iload_n 1, 1) := by decide +kernel
theorem dX11_tread_5 : decode cX11_tread 5 = .ok (.bipush 9, 2) := by decide +kernel
theorem dX11_tread_7 : decode cX11_tread 7 = .ok (.if_icmp .le 5, 3) := by decide +kernel
theorem dX11_tread_10 : decode cX11_tread 10 = .ok (.iconst (-1), 1) := by decide +kernel
theorem dX11_tread_11 : decode cX11_tread 11 = .ok (.ireturn, 1) := by decide +kernel
theorem dX11_tread_12 : decode cX11_tread 12 = .ok (.aload_n 0, 1) := by decide +kernel
theorem dX11_tread_13 : decode cX11_tread 13 = .ok (.getfield 63, 3) := by decide +kernel
theorem dX11_tread_16 : decode cX11_tread 16 = .ok (.iconst 0, 1) := by decide +kernel
theorem dX11_tread_17 : decode cX11_tread 17 = .ok (.iload_n 1, 1) := by decide +kernel
theorem dX11_tread_18 : decode cX11_tread 18 = .ok (.iload_n 2, 1) := by decide +kernel
theorem dX11_tread_19 : decode cX11_tread 19 = .ok (.invokevirtual 314, 3) := by decide +kernel
theorem dX11_tread_22 : decode cX11_tread 22 = .ok (.ireturn, 1) := by decide +kernel
theorem dX11_untell_0 : decode cX11_untell 0 = .ok (.aload_n 0, 1) := by decide +kernel
theorem dX11_untell_1 : decode cX11_untell 1 = .ok (.getfield 63, 3) := by decide +kernel
theorem dX11_untell_4 : decode cX11_untell 4 = .ok (.iload_n 1, 1) := by decide +kernel
theorem dX11_untell_5 : decode cX11_untell 5 = .ok (.invokevirtual 318, 3) := by decide +kernel
theorem dX11_untell_8 : decode cX11_untell 8 = .ok (.ireturn, 1) := by decide +kernel
theorem dX11_later_0 : decode cX11_later 0 = .ok (.aload_n 0, 1) := by decide +kernel
theorem dX11_later_1 : decode cX11_later 1 = .ok (.getfield 63, 3) := by decide +kernel
theorem dX11_later_4 : decode cX11_later 4 = .ok (.iload_n 1, 1) := by decide +kernel
theorem dX11_later_5 : decode cX11_later 5 = .ok (.invokevirtual 321, 3) := by decide +kernel
theorem dX11_later_8 : decode cX11_later 8 = .ok (.ireturn, 1) := by decide +kernel
theorem dX11_runs_0 : decode cX11_runs 0 = .ok (.aload_n 0, 1) := by decide +kernel
theorem dX11_runs_1 : decode cX11_runs 1 = .ok (.getfield 63, 3) := by decide +kernel
theorem dX11_runs_4 : decode cX11_runs 4 = .ok (.aload_n 0, 1) := by decide +kernel
theorem dX11_runs_5 : decode cX11_runs 5 = .ok (.getfield 29, 3) := by decide +kernel
theorem dX11_runs_8 : decode cX11_runs 8 = .ok (.iload_n 1, 1) := by decide +kernel
theorem dX11_runs_9 : decode cX11_runs 9 = .ok (.invokevirtual 324, 3) := by decide +kernel
theorem dX11_runs_12 : decode cX11_runs 12 = .ok (.aload_n 0, 1) := by decide +kernel
theorem dX11_runs_13 : decode cX11_runs 13 = .ok (.getfield 63, 3) := by decide +kernel
theorem dX11_runs_16 : decode cX11_runs 16 = .ok (.getfield 328, 3) := by decide +kernel
theorem dX11_runs_19 : decode cX11_runs 19 = .ok (.ireturn, 1) := by decide +kernel
theorem dX11_who_0 : decode cX11_who 0 = .ok (.aload_n 0, 1) := by decide +kernel
theorem dX11_who_1 : decode cX11_who 1 = .ok (.getfield 63, 3) := by decide +kernel
theorem dX11_who_4 : decode cX11_who 4 = .ok (.aload_n 0, 1) := by decide +kernel
theorem dX11_who_5 : decode cX11_who 5 = .ok (.getfield 29, 3) := by decide +kernel
theorem dX11_who_8 : decode cX11_who 8 = .ok (.iload_n 1, 1) := by decide +kernel
theorem dX11_who_9 : decode cX11_who 9 = .ok (.invokevirtual 324, 3) := by decide +kernel
theorem dX11_who_12 : decode cX11_who 12 = .ok (.aload_n 0, 1) := by decide +kernel
theorem dX11_who_13 : decode cX11_who 13 = .ok (.getfield 63, 3) := by decide +kernel
theorem dX11_who_16 : decode cX11_who 16 = .ok (.getfield 331, 3) := by decide +kernel
theorem dX11_who_19 : decode cX11_who 19 = .ok (.ireturn, 1) := by decide +kernel
theorem dX11_ask_0 : decode cX11_ask 0 = .ok (.iload_n 1, 1) := by decide +kernel
theorem dX11_ask_1 : decode cX11_ask 1 = .ok (.ifCond .lt 8, 3) := by decide +kernel
theorem dX11_ask_4 : decode cX11_ask 4 = .ok (.iload_n 1, 1) := by decide +kernel
theorem dX11_ask_5 : decode cX11_ask 5 = .ok (.iconst 1, 1) := by decide +kernel
theorem dX11_ask_6 : decode cX11_ask 6 = .ok (.if_icmp .le 5, 3) := by decide +kernel
theorem dX11_ask_9 : decode cX11_ask 9 = .ok (.iconst (-1), 1) := by decide +kernel
theorem dX11_ask_10 : decode cX11_ask 10 = .ok (.ireturn, 1) := by decide +kernel
theorem dX11_ask_11 : decode cX11_ask 11 = .ok (.aload_n 0, 1) := by decide +kernel
theorem dX11_ask_12 : decode cX11_ask 12 = .ok (.getfield 63, 3) := by decide +kernel
theorem dX11_ask_15 : decode cX11_ask 15 = .ok (.aload_n 0, 1) := by decide +kernel
theorem dX11_ask_16 : decode cX11_ask 16 = .ok (.getfield 29, 3) := by decide +kernel
theorem dX11_ask_19 : decode cX11_ask 19 = .ok (.iload_n 2, 1) := by decide +kernel
theorem dX11_ask_20 : decode cX11_ask 20 = .ok (.invokevirtual 324, 3) := by decide +kernel
theorem dX11_ask_23 : decode cX11_ask 23 = .ok (.aload_n 0, 1) := by decide +kernel
theorem dX11_ask_24 : decode cX11_ask 24 = .ok (.getfield 63, 3) := by decide +kernel
theorem dX11_ask_27 : decode cX11_ask 27 = .ok (.getfield 328, 3) := by decide +kernel
theorem dX11_ask_30 : decode cX11_ask 30 = .ok (.ifCond .ne 5, 3) := by decide +kernel
theorem dX11_ask_33 : decode cX11_ask 33 = .ok (.iconst (-1), 1) := by decide +kernel
theorem dX11_ask_34 : decode cX11_ask 34 = .ok (.ireturn, 1) := by decide +kernel
theorem dX11_ask_35 : decode cX11_ask 35 = .ok (.iconst (-1), 1) := by decide +kernel
theorem dX11_ask_36 : decode cX11_ask 36 = .ok (.istore_n 3, 1) := by decide +kernel
theorem dX11_ask_37 : decode cX11_ask 37 = .ok (.iconst 0, 1) := by decide +kernel
theorem dX11_ask_38 : decode cX11_ask 38 = .ok (.istore 4, 2) := by decide +kernel
theorem dX11_ask_40 : decode cX11_ask 40 = .ok (.iconst 0, 1) := by decide +kernel
theorem dX11_ask_41 : decode cX11_ask 41 = .ok (.istore 5, 2) := by decide +kernel
theorem dX11_ask_43 : decode cX11_ask 43 = .ok (.iload 5, 2) := by decide +kernel
theorem dX11_ask_45 : decode cX11_ask 45 = .ok (.aload_n 0, 1) := by decide +kernel
theorem dX11_ask_46 : decode cX11_ask 46 = .ok (.getfield 29, 3) := by decide +kernel
theorem dX11_ask_49 : decode cX11_ask 49 = .ok (.getfield 210, 3) := by decide +kernel
theorem dX11_ask_52 : decode cX11_ask 52 = .ok (.if_icmp .gt 39, 3) := by decide +kernel
theorem dX11_ask_55 : decode cX11_ask 55 = .ok (.aload_n 0, 1) := by decide +kernel
theorem dX11_ask_56 : decode cX11_ask 56 = .ok (.getfield 63, 3) := by decide +kernel
theorem dX11_ask_59 : decode cX11_ask 59 = .ok (.iload 5, 2) := by decide +kernel
theorem dX11_ask_61 : decode cX11_ask 61 = .ok (.invokevirtual 334, 3) := by decide +kernel
theorem dX11_ask_64 : decode cX11_ask 64 = .ok (.istore 6, 2) := by decide +kernel
theorem dX11_ask_66 : decode cX11_ask 66 = .ok (.iload_n 3, 1) := by decide +kernel
theorem dX11_ask_67 : decode cX11_ask 67 = .ok (.iconst (-1), 1) := by decide +kernel
theorem dX11_ask_68 : decode cX11_ask 68 = .ok (.if_icmp .eq 10, 3) := by decide +kernel
theorem dX11_ask_71 : decode cX11_ask 71 = .ok (.iload 6, 2) := by decide +kernel
theorem dX11_ask_73 : decode cX11_ask 73 = .ok (.iload 4, 2) := by decide +kernel
theorem dX11_ask_75 : decode cX11_ask 75 = .ok (.if_icmp .ge 10, 3) := by decide +kernel
theorem dX11_ask_78 : decode cX11_ask 78 = .ok (.iload 5, 2) := by decide +kernel
theorem dX11_ask_80 : decode cX11_ask 80 = .ok (.istore_n 3, 1) := by decide +kernel
theorem dX11_ask_81 : decode cX11_ask 81 = .ok (.iload 6, 2) := by decide +kernel
theorem dX11_ask_83 : decode cX11_ask 83 = .ok (.istore 4, 2) := by decide +kernel
theorem dX11_ask_85 : decode cX11_ask 85 = .ok (.iinc 5 1, 3) := by decide +kernel
theorem dX11_ask_88 : decode cX11_ask 88 = .ok (.goto (-45), 3) := by decide +kernel
theorem dX11_ask_91 : decode cX11_ask 91 = .ok (.iload_n 1, 1) := by decide +kernel
theorem dX11_ask_92 : decode cX11_ask 92 = .ok (.ifCond .ne 7, 3) := by decide +kernel
theorem dX11_ask_95 : decode cX11_ask 95 = .ok (.iload_n 3, 1) := by decide +kernel
theorem dX11_ask_96 : decode cX11_ask 96 = .ok (.goto 5, 3) := by decide +kernel
theorem dX11_ask_99 : decode cX11_ask 99 = .ok (.iload 4, 2) := by decide +kernel
theorem dX11_ask_101 : decode cX11_ask 101 = .ok (.ireturn, 1) := by decide +kernel
theorem dX11_image_0 : decode cX11_image 0 = .ok (.aload_n 0, 1) := by decide +kernel
theorem dX11_image_1 : decode cX11_image 1 = .ok (.getfield 49, 3) := by decide +kernel
theorem dX11_image_4 : decode cX11_image 4 = .ok (.iload_n 1, 1) := by decide +kernel
theorem dX11_image_5 : decode cX11_image 5 = .ok (.aload_n 0, 1) := by decide +kernel
theorem dX11_image_6 : decode cX11_image 6 = .ok (.getfield 39, 3) := by decide +kernel
theorem dX11_image_9 : decode cX11_image 9 = .ok (.invokevirtual 337, 3) := by decide +kernel
theorem dX11_image_12 : decode cX11_image 12 = .ok (.ifCond .eq 13, 3) := by decide +kernel
theorem dX11_image_15 : decode cX11_image 15 = .ok (.aload_n 0, 1) := by decide +kernel
theorem dX11_image_16 : decode cX11_image 16 = .ok (.getfield 39, 3) := by decide +kernel
theorem dX11_image_19 : decode cX11_image 19 = .ok (.getfield 186, 3) := by decide +kernel
theorem dX11_image_22 : decode cX11_image 22 = .ok (.goto 4, 3) := by decide +kernel
theorem dX11_image_25 : decode cX11_image 25 = .ok (.iconst (-1), 1) := by decide +kernel
theorem dX11_image_26 : decode cX11_image 26 = .ok (.ireturn, 1) := by decide +kernel
theorem dX11_back_0 : decode cX11_back 0 = .ok (.aload_n 0, 1) := by decide +kernel
theorem dX11_back_1 : decode cX11_back 1 = .ok (.getfield 49, 3) := by decide +kernel
theorem dX11_back_4 : decode cX11_back 4 = .ok (.iload_n 1, 1) := by decide +kernel
theorem dX11_back_5 : decode cX11_back 5 = .ok (.aload_n 0, 1) := by decide +kernel
theorem dX11_back_6 : decode cX11_back 6 = .ok (.getfield 39, 3) := by decide +kernel
theorem dX11_back_9 : decode cX11_back 9 = .ok (.invokevirtual 341, 3) := by decide +kernel
theorem dX11_back_12 : decode cX11_back 12 = .ok (.ifCond .ne 5, 3) := by decide +kernel
theorem dX11_back_15 : decode cX11_back 15 = .ok (.iconst (-1), 1) := by decide +kernel
theorem dX11_back_16 : decode cX11_back 16 = .ok (.ireturn, 1) := by decide +kernel
theorem dX11_back_17 : decode cX11_back 17 = .ok (.aload_n 0, 1) := by decide +kernel
theorem dX11_back_18 : decode cX11_back 18 = .ok (.getfield 49, 3) := by decide +kernel
theorem dX11_back_21 : decode cX11_back 21 = .ok (.aload_n 0, 1) := by decide +kernel
theorem dX11_back_22 : decode cX11_back 22 = .ok (.getfield 39, 3) := by decide +kernel
theorem dX11_back_25 : decode cX11_back 25 = .ok (.invokevirtual 92, 3) := by decide +kernel
theorem dX11_back_28 : decode cX11_back 28 = .ok (.aload_n 0, 1) := by decide +kernel
theorem dX11_back_29 : decode cX11_back 29 = .ok (.getfield 39, 3) := by decide +kernel
theorem dX11_back_32 : decode cX11_back 32 = .ok (.getfield 186, 3) := by decide +kernel
theorem dX11_back_35 : decode cX11_back 35 = .ok (.ireturn, 1) := by decide +kernel
theorem dX11_about_0 : decode cX11_about 0 = .ok (.iload_n 1, 1) := by decide +kernel
theorem dX11_about_1 : decode cX11_about 1 = .ok (.tableswitch 168 0 12 #[67, 75, 83, 91, 99, 107, 115, 123, 131, 139, 147, 152, 160], 67) := by decide +kernel
theorem dX11_about_68 : decode cX11_about 68 = .ok (.aload_n 0, 1) := by decide +kernel
theorem dX11_about_69 : decode cX11_about 69 = .ok (.getfield 29, 3) := by decide +kernel
theorem dX11_about_72 : decode cX11_about 72 = .ok (.getfield 110, 3) := by decide +kernel
theorem dX11_about_75 : decode cX11_about 75 = .ok (.ireturn, 1) := by decide +kernel
theorem dX11_about_76 : decode cX11_about 76 = .ok (.aload_n 0, 1) := by decide +kernel
theorem dX11_about_77 : decode cX11_about 77 = .ok (.getfield 29, 3) := by decide +kernel
theorem dX11_about_80 : decode cX11_about 80 = .ok (.getfield 210, 3) := by decide +kernel
theorem dX11_about_83 : decode cX11_about 83 = .ok (.ireturn, 1) := by decide +kernel
theorem dX11_about_84 : decode cX11_about 84 = .ok (.aload_n 0, 1) := by decide +kernel
theorem dX11_about_85 : decode cX11_about 85 = .ok (.getfield 39, 3) := by decide +kernel
theorem dX11_about_88 : decode cX11_about 88 = .ok (.getfield 192, 3) := by decide +kernel
theorem dX11_about_91 : decode cX11_about 91 = .ok (.ireturn, 1) := by decide +kernel
theorem dX11_about_92 : decode cX11_about 92 = .ok (.aload_n 0, 1) := by decide +kernel
theorem dX11_about_93 : decode cX11_about 93 = .ok (.getfield 39, 3) := by decide +kernel
theorem dX11_about_96 : decode cX11_about 96 = .ok (.getfield 160, 3) := by decide +kernel
theorem dX11_about_99 : decode cX11_about 99 = .ok (.ireturn, 1) := by decide +kernel
theorem dX11_about_100 : decode cX11_about 100 = .ok (.aload_n 0, 1) := by decide +kernel
theorem dX11_about_101 : decode cX11_about 101 = .ok (.getfield 39, 3) := by decide +kernel
theorem dX11_about_104 : decode cX11_about 104 = .ok (.getfield 186, 3) := by decide +kernel
theorem dX11_about_107 : decode cX11_about 107 = .ok (.ireturn, 1) := by decide +kernel
theorem dX11_about_108 : decode cX11_about 108 = .ok (.aload_n 0, 1) := by decide +kernel
theorem dX11_about_109 : decode cX11_about 109 = .ok (.getfield 39, 3) := by decide +kernel
theorem dX11_about_112 : decode cX11_about 112 = .ok (.getfield 344, 3) := by decide +kernel
theorem dX11_about_115 : decode cX11_about 115 = .ok (.ireturn, 1) := by decide +kernel
theorem dX11_about_116 : decode cX11_about 116 = .ok (.aload_n 0, 1) := by decide +kernel
theorem dX11_about_117 : decode cX11_about 117 = .ok (.getfield 49, 3) := by decide +kernel
theorem dX11_about_120 : decode cX11_about 120 = .ok (.getfield 347, 3) := by decide +kernel
theorem dX11_about_123 : decode cX11_about 123 = .ok (.ireturn, 1) := by decide +kernel
theorem dX11_about_124 : decode cX11_about 124 = .ok (.aload_n 0, 1) := by decide +kernel
theorem dX11_about_125 : decode cX11_about 125 = .ok (.getfield 49, 3) := by decide +kernel
theorem dX11_about_128 : decode cX11_about 128 = .ok (.getfield 350, 3) := by decide +kernel
theorem dX11_about_131 : decode cX11_about 131 = .ok (.ireturn, 1) := by decide +kernel
theorem dX11_about_132 : decode cX11_about 132 = .ok (.aload_n 0, 1) := by decide +kernel
theorem dX11_about_133 : decode cX11_about 133 = .ok (.getfield 63, 3) := by decide +kernel
theorem dX11_about_136 : decode cX11_about 136 = .ok (.getfield 353, 3) := by decide +kernel
theorem dX11_about_139 : decode cX11_about 139 = .ok (.ireturn, 1) := by decide +kernel
theorem dX11_about_140 : decode cX11_about 140 = .ok (.aload_n 0, 1) := by decide +kernel
theorem dX11_about_141 : decode cX11_about 141 = .ok (.getfield 63, 3) := by decide +kernel
theorem dX11_about_144 : decode cX11_about 144 = .ok (.getfield 356, 3) := by decide +kernel
theorem dX11_about_147 : decode cX11_about 147 = .ok (.ireturn, 1) := by decide +kernel
theorem dX11_about_148 : decode cX11_about 148 = .ok (.aload_n 0, 1) := by decide +kernel
theorem dX11_about_149 : decode cX11_about 149 = .ok (.getfield 13, 3) := by decide +kernel
theorem dX11_about_152 : decode cX11_about 152 = .ok (.ireturn, 1) := by decide +kernel
theorem dX11_about_153 : decode cX11_about 153 = .ok (.aload_n 0, 1) := by decide +kernel
theorem dX11_about_154 : decode cX11_about 154 = .ok (.getfield 29, 3) := by decide +kernel
theorem dX11_about_157 : decode cX11_about 157 = .ok (.getfield 359, 3) := by decide +kernel
theorem dX11_about_160 : decode cX11_about 160 = .ok (.ireturn, 1) := by decide +kernel
theorem dX11_about_161 : decode cX11_about 161 = .ok (.aload_n 0, 1) := by decide +kernel
theorem dX11_about_162 : decode cX11_about 162 = .ok (.getfield 56, 3) := by decide +kernel
theorem dX11_about_165 : decode cX11_about 165 = .ok (.getfield 362, 3) := by decide +kernel
theorem dX11_about_168 : decode cX11_about 168 = .ok (.ireturn, 1) := by decide +kernel
theorem dX11_about_169 : decode cX11_about 169 = .ok (.iconst (-1), 1) := by decide +kernel
theorem dX11_about_170 : decode cX11_about 170 = .ok (.ireturn, 1) := by decide +kernel
theorem dX12_init_0 : decode cX12_init 0 = .ok (.aload_n 0, 1) := by decide +kernel
theorem dX12_init_1 : decode cX12_init 1 = .ok (.invokespecial 1, 3) := by decide +kernel
theorem dX12_init_4 : decode cX12_init 4 = .ok (.aload_n 0, 1) := by decide +kernel
theorem dX12_init_5 : decode cX12_init 5 = .ok (.sipush 1600, 3) := by decide +kernel
theorem dX12_init_8 : decode cX12_init 8 = .ok (.newarray .int, 2) := by decide +kernel
theorem dX12_init_10 : decode cX12_init 10 = .ok (.putfield 7, 3) := by decide +kernel
theorem dX12_init_13 : decode cX12_init 13 = .ok (.aload_n 0, 1) := by decide +kernel
theorem dX12_init_14 : decode cX12_init 14 = .ok (.iconst (-1), 1) := by decide +kernel
theorem dX12_init_15 : decode cX12_init 15 = .ok (.putfield 13, 3) := by decide +kernel
theorem dX12_init_18 : decode cX12_init 18 = .ok (.aload_n 0, 1) := by decide +kernel
theorem dX12_init_19 : decode cX12_init 19 = .ok (.bipush 8, 2) := by decide +kernel
theorem dX12_init_21 : decode cX12_init 21 = .ok (.newarray .long, 2) := by decide +kernel
theorem dX12_init_23 : decode cX12_init 23 = .ok (.putfield 17, 3) := by decide +kernel
theorem dX12_init_26 : decode cX12_init 26 = .ok (.aload_n 0, 1) := by decide +kernel
theorem dX12_init_27 : decode cX12_init 27 = .ok (.sipush 640, 3) := by decide +kernel
theorem dX12_init_30 : decode cX12_init 30 = .ok (.newarray .int, 2) := by decide +kernel
theorem dX12_init_32 : decode cX12_init 32 = .ok (.putfield 21, 3) := by decide +kernel
theorem dX12_init_35 : decode cX12_init 35 = .ok (.aload_n 0, 1) := by decide +kernel
theorem dX12_init_36 : decode cX12_init 36 = .ok (.sipush 640, 3) := by decide +kernel
theorem dX12_init_39 : decode cX12_init 39 = .ok (.newarray .int, 2) := by decide +kernel
theorem dX12_init_41 : decode cX12_init 41 = .ok (.putfield 24, 3) := by decide +kernel
theorem dX12_init_44 : decode cX12_init 44 = .ok (.aload_n 0, 1) := by decide +kernel
theorem dX12_init_45 : decode cX12_init 45 = .ok (.iconst 2, 1) := by decide +kernel
theorem dX12_init_46 : decode cX12_init 46 = .ok (.newarray .int, 2) := by decide +kernel
theorem dX12_init_48 : decode cX12_init 48 = .ok (.putfield 27, 3) := by decide +kernel
theorem dX12_init_51 : decode cX12_init 51 = .ok (.aload_n 0, 1) := by decide +kernel
theorem dX12_init_52 : decode cX12_init 52 = .ok (.sipush 640, 3) := by decide +kernel
theorem dX12_init_55 : decode cX12_init 55 = .ok (.newarray .int, 2) := by decide +kernel
theorem dX12_init_57 : decode cX12_init 57 = .ok (.putfield 30, 3) := by decide +kernel
theorem dX12_init_60 : decode cX12_init 60 = .ok (.aload_n 0, 1) := by decide +kernel
theorem dX12_init_61 : decode cX12_init 61 = .ok (.sipush 640, 3) := by decide +kernel
theorem dX12_init_64 : decode cX12_init 64 = .ok (.newarray .int, 2) := by decide +kernel
theorem dX12_init_66 : decode cX12_init 66 = .ok (.putfield 33, 3) := by decide +kernel
theorem dX12_init_69 : decode cX12_init 69 = .ok (.aload_n 0, 1) := by decide +kernel
theorem dX12_init_70 : decode cX12_init 70 = .ok (.iconst 2, 1) := by decide +kernel
theorem dX12_init_71 : decode cX12_init 71 = .ok (.newarray .int, 2) := by decide +kernel
theorem dX12_init_73 : decode cX12_init 73 = .ok (.putfield 36, 3) := by decide +kernel
theorem dX12_init_76 : decode cX12_init 76 = .ok (.aload_n 0, 1) := by decide +kernel
theorem dX12_init_77 : decode cX12_init 77 = .ok (.sipush 160, 3) := by decide +kernel
theorem dX12_init_80 : decode cX12_init 80 = .ok (.newarray .int, 2) := by decide +kernel
theorem dX12_init_82 : decode cX12_init 82 = .ok (.putfield 39, 3) := by decide +kernel
theorem dX12_init_85 : decode cX12_init 85 = .ok (.aload_n 0, 1) := by decide +kernel
theorem dX12_init_86 : decode cX12_init 86 = .ok (.bipush 64, 2) := by decide +kernel
theorem dX12_init_88 : decode cX12_init 88 = .ok (.newarray .int, 2) := by decide +kernel
theorem dX12_init_90 : decode cX12_init 90 = .ok (.putfield 42, 3) := by decide +kernel
theorem dX12_init_93 : decode cX12_init 93 = .ok (.aload_n 0, 1) := by decide +kernel
theorem dX12_init_94 : decode cX12_init 94 = .ok (.iconst 2, 1) := by decide +kernel
theorem dX12_init_95 : decode cX12_init 95 = .ok (.newarray .boolean, 2) := by decide +kernel
theorem dX12_init_97 : decode cX12_init 97 = .ok (.putfield 45, 3) := by decide +kernel
theorem dX12_init_100 : decode cX12_init 100 = .ok (.aload_n 0, 1) := by decide +kernel
theorem dX12_init_101 : decode cX12_init 101 = .ok (.bipush 6, 2) := by decide +kernel
theorem dX12_init_103 : decode cX12_init 103 = .ok (.newarray .int, 2) := by decide +kernel
theorem dX12_init_105 : decode cX12_init 105 = .ok (.putfield 49, 3) := by decide +kernel
theorem dX12_init_108 : decode cX12_init 108 = .ok (.aload_n 0, 1) := by decide +kernel
theorem dX12_init_109 : decode cX12_init 109 = .ok (.bipush 8, 2) := by decide +kernel
theorem dX12_init_111 : decode cX12_init 111 = .ok (.newarray .int, 2) := by decide +kernel
theorem dX12_init_113 : decode cX12_init 113 = .ok (.putfield 52, 3) := by decide +kernel
theorem dX12_init_116 : decode cX12_init 116 = .ok (.aload_n 0, 1) := by decide +kernel
theorem dX12_init_117 : decode cX12_init 117 = .ok (.bipush 8, 2) := by decide +kernel
theorem dX12_init_119 : decode cX12_init 119 = .ok (.newarray .int, 2) := by decide +kernel
theorem dX12_init_121 : decode cX12_init 121 = .ok (.putfield 55, 3) := by decide +kernel
theorem dX12_init_124 : decode cX12_init 124 = .ok (.aload_n 0, 1) := by decide +kernel
theorem dX12_init_125 : decode cX12_init 125 = .ok (.bipush 8, 2) := by decide +kernel
theorem dX12_init_127 : decode cX12_init 127 = .ok (.newarray .int, 2) := by decide +kernel
theorem dX12_init_129 : decode cX12_init 129 = .ok (.putfield 58, 3) := by decide +kernel
theorem dX12_init_132 : decode cX12_init 132 = .ok (.aload_n 0, 1) := by decide +kernel
theorem dX12_init_133 : decode cX12_init 133 = .ok (.bipush 8, 2) := by decide +kernel
theorem dX12_init_135 : decode cX12_init 135 = .ok (.newarray .int, 2) := by decide +kernel
theorem dX12_init_137 : decode cX12_init 137 = .ok (.putfield 61, 3) := by decide +kernel
theorem dX12_init_140 : decode cX12_init 140 = .ok (.aload_n 0, 1) := by decide +kernel
theorem dX12_init_141 : decode cX12_init 141 = .ok (.bipush 8, 2) := by decide +kernel
theorem dX12_init_143 : decode cX12_init 143 = .ok (.newarray .int, 2) := by decide +kernel
theorem dX12_init_145 : decode cX12_init 145 = .ok (.putfield 64, 3) := by decide +kernel
theorem dX12_init_148 : decode cX12_init 148 = .ok (.aload_n 0, 1) := by decide +kernel
theorem dX12_init_149 : decode cX12_init 149 = .ok (.bipush 8, 2) := by decide +kernel
theorem dX12_init_151 : decode cX12_init 151 = .ok (.newarray .int, 2) := by decide +kernel
theorem dX12_init_153 : decode cX12_init 153 = .ok (.putfield 67, 3) := by decide +kernel
theorem dX12_init_156 : decode cX12_init 156 = .ok (.aload_n 0, 1) := by decide +kernel
theorem dX12_init_157 : decode cX12_init 157 = .ok (.bipush 8, 2) := by decide +kernel
theorem dX12_init_159 : decode cX12_init 159 = .ok (.newarray .int, 2) := by decide +kernel
theorem dX12_init_161 : decode cX12_init 161 = .ok (.putfield 70, 3) := by decide +kernel
theorem dX12_init_164 : decode cX12_init 164 = .ok (.aload_n 0, 1) := by decide +kernel
theorem dX12_init_165 : decode cX12_init 165 = .ok (.bipush 8, 2) := by decide +kernel
theorem dX12_init_167 : decode cX12_init 167 = .ok (.newarray .int, 2) := by decide +kernel
theorem dX12_init_169 : decode cX12_init 169 = .ok (.putfield 73, 3) := by decide +kernel
theorem dX12_init_172 : decode cX12_init 172 = .ok (.aload_n 0, 1) := by decide +kernel
theorem dX12_init_173 : decode cX12_init 173 = .ok (.bipush 8, 2) := by decide +kernel
theorem dX12_init_175 : decode cX12_init 175 = .ok (.newarray .int, 2) := by decide +kernel
theorem dX12_init_177 : decode cX12_init 177 = .ok (.putfield 76, 3) := by decide +kernel
theorem dX12_init_180 : decode cX12_init 180 = .ok (.aload_n 0, 1) := by decide +kernel
theorem dX12_init_181 : decode cX12_init 181 = .ok (.bipush 8, 2) := by decide +kernel
theorem dX12_init_183 : decode cX12_init 183 = .ok (.newarray .int, 2) := by decide +kernel
theorem dX12_init_185 : decode cX12_init 185 = .ok (.putfield 79, 3) := by decide +kernel
theorem dX12_init_188 : decode cX12_init 188 = .ok (.aload_n 0, 1) := by decide +kernel
theorem dX12_init_189 : decode cX12_init 189 = .ok (.bipush 9, 2) := by decide +kernel
theorem dX12_init_191 : decode cX12_init 191 = .ok (.putfield 82, 3) := by decide +kernel
theorem dX12_init_194 : decode cX12_init 194 = .ok (.aload_n 0, 1) := by decide +kernel
theorem dX12_init_195 : decode cX12_init 195 = .ok (.bipush 28, 2) := by decide +kernel
theorem dX12_init_197 : decode cX12_init 197 = .ok (.newarray .int, 2) := by decide +kernel
theorem dX12_init_199 : decode cX12_init 199 = .ok (.putfield 85, 3) := by decide +kernel
theorem dX12_init_202 : decode cX12_init 202 = .ok (.aload_n 0, 1) := by decide +kernel
theorem dX12_init_203 : decode cX12_init 203 = .ok (.bipush 28, 2) := by decide +kernel
theorem dX12_init_205 : decode cX12_init 205 = .ok (.newarray .int, 2) := by decide +kernel
theorem dX12_init_207 : decode cX12_init 207 = .ok (.putfield 88, 3) := by decide +kernel
theorem dX12_init_210 : decode cX12_init 210 = .ok (.aload_n 0, 1) := by decide +kernel
theorem dX12_init_211 : decode cX12_init 211 = .ok (.sipush 1120, 3) := by decide +kernel
theorem dX12_init_214 : decode cX12_init 214 = .ok (.newarray .int, 2) := by decide +kernel
theorem dX12_init_216 : decode cX12_init 216 = .ok (.putfield 91, 3) := by decide +kernel
theorem dX12_init_219 : decode cX12_init 219 = .ok (.aload_n 0, 1) := by decide +kernel
theorem dX12_init_220 : decode cX12_init 220 = .ok (.bipush 8, 2) := by decide +kernel
theorem dX12_init_222 : decode cX12_init 222 = .ok (.newarray .int, 2) := by decide +kernel
theorem dX12_init_224 : decode cX12_init 224 = .ok (.putfield 94, 3) := by decide +kernel
theorem dX12_init_227 : decode cX12_init 227 = .ok (.aload_n 0, 1) := by decide +kernel
theorem dX12_init_228 : decode cX12_init 228 = .ok (.bipush 8, 2) := by decide +kernel
theorem dX12_init_230 : decode cX12_init 230 = .ok (.newarray .int, 2) := by decide +kernel
theorem dX12_init_232 : decode cX12_init 232 = .ok (.putfield 97, 3) := by decide +kernel
theorem dX12_init_235 : decode cX12_init 235 = .ok (.aload_n 0, 1) := by decide +kernel
theorem dX12_init_236 : decode cX12_init 236 = .ok (.sipush 2304, 3) := by decide +kernel
theorem dX12_init_239 : decode cX12_init 239 = .ok (.newarray .int, 2) := by decide +kernel
theorem dX12_init_241 : decode cX12_init 241 = .ok (.putfield 100, 3) := by decide +kernel
theorem dX12_init_244 : decode cX12_init 244 = .ok (.aload_n 0, 1) := by decide +kernel
theorem dX12_init_245 : decode cX12_init 245 = .ok (.sipush 2304, 3) := by decide +kernel
theorem dX12_init_248 : decode cX12_init 248 = .ok (.newarray .int, 2) := by decide +kernel
theorem dX12_init_250 : decode cX12_init 250 = .ok (.putfield 103, 3) := by decide +kernel
theorem dX12_init_253 : decode cX12_init 253 = .ok (.aload_n 0, 1) := by decide +kernel
theorem dX12_init_254 : decode cX12_init 254 = .ok (.bipush 8, 2) := by decide +kernel
theorem dX12_init_256 : decode cX12_init 256 = .ok (.newarray .int, 2) := by decide +kernel
theorem dX12_init_258 : decode cX12_init 258 = .ok (.putfield 106, 3) := by decide +kernel
theorem dX12_init_261 : decode cX12_init 261 = .ok (.aload_n 0, 1) := by decide +kernel
theorem dX12_init_262 : decode cX12_init 262 = .ok (.bipush 64, 2) := by decide +kernel
theorem dX12_init_264 : decode cX12_init 264 = .ok (.newarray .boolean, 2) := by decide +kernel
theorem dX12_init_266 : decode cX12_init 266 = .ok (.putfield 109, 3) := by decide +kernel
theorem dX12_init_269 : decode cX12_init 269 = .ok (.aload_n 0, 1) := by decide +kernel
theorem dX12_init_270 : decode cX12_init 270 = .ok (.bipush 8, 2) := by decide +kernel
theorem dX12_init_272 : decode cX12_init 272 = .ok (.newarray .int, 2) := by decide +kernel
theorem dX12_init_274 : decode cX12_init 274 = .ok (.putfield 112, 3) := by decide +kernel
theorem dX12_init_277 : decode cX12_init 277 = .ok (.aload_n 0, 1) := by decide +kernel
theorem dX12_init_278 : decode cX12_init 278 = .ok (.bipush 41, 2) := by decide +kernel
theorem dX12_init_280 : decode cX12_init 280 = .ok (.newarray .int, 2) := by decide +kernel
theorem dX12_init_282 : decode cX12_init 282 = .ok (.putfield 115, 3) := by decide +kernel
theorem dX12_init_285 : decode cX12_init 285 = .ok (.aload_n 0, 1) := by decide +kernel
theorem dX12_init_286 : decode cX12_init 286 = .ok (.bipush 30, 2) := by decide +kernel
theorem dX12_init_288 : decode cX12_init 288 = .ok (.newarray .int, 2) := by decide +kernel
theorem dX12_init_290 : decode cX12_init 290 = .ok (.putfield 118, 3) := by decide +kernel
theorem dX12_init_293 : decode cX12_init 293 = .ok (.aload_n 0, 1) := by decide +kernel
theorem dX12_init_294 : decode cX12_init 294 = .ok (.bipush 30, 2) := by decide +kernel
theorem dX12_init_296 : decode cX12_init 296 = .ok (.newarray .int, 2) := by decide +kernel
theorem dX12_init_298 : decode cX12_init 298 = .ok (.putfield 121, 3) := by decide +kernel
theorem dX12_init_301 : decode cX12_init 301 = .ok (.aload_n 0, 1) := by decide +kernel
theorem dX12_init_302 : decode cX12_init 302 = .ok (.bipush 30, 2) := by decide +kernel
theorem dX12_init_304 : decode cX12_init 304 = .ok (.newarray .int, 2) := by decide +kernel
theorem dX12_init_306 : decode cX12_init 306 = .ok (.putfield 124, 3) := by decide +kernel
theorem dX12_init_309 : decode cX12_init 309 = .ok (.aload_n 0, 1) := by decide +kernel
theorem dX12_init_310 : decode cX12_init 310 = .ok (.bipush 30, 2) := by decide +kernel
theorem dX12_init_312 : decode cX12_init 312 = .ok (.newarray .int, 2) := by decide +kernel
theorem dX12_init_314 : decode cX12_init 314 = .ok (.putfield 127, 3) := by decide +kernel
theorem dX12_init_317 : decode cX12_init 317 = .ok (.aload_n 0, 1) := by decide +kernel
theorem dX12_init_318 : decode cX12_init 318 = .ok (.bipush 30, 2) := by decide +kernel
theorem dX12_init_320 : decode cX12_init 320 = .ok (.newarray .boolean, 2) := by decide +kernel
theorem dX12_init_322 : decode cX12_init 322 = .ok (.putfield 130, 3) := by decide +kernel
theorem dX12_init_325 : decode cX12_init 325 = .ok (.aload_n 0, 1) := by decide +kernel
theorem dX12_init_326 : decode cX12_init 326 = .ok (.bipush 21, 2) := by decide +kernel
theorem dX12_init_328 : decode cX12_init 328 = .ok (.newarray .int, 2) := by decide +kernel
theorem dX12_init_330 : decode cX12_init 330 = .ok (.putfield 133, 3) := by decide +kernel
theorem dX12_init_333 : decode cX12_init 333 = .ok (.aload_n 0, 1) := by decide +kernel
theorem dX12_init_334 : decode cX12_init 334 = .ok (.iconst 3, 1) := by decide +kernel
theorem dX12_init_335 : decode cX12_init 335 = .ok (.newarray .boolean, 2) := by decide +kernel
theorem dX12_init_337 : decode cX12_init 337 = .ok (.putfield 136, 3) := by decide +kernel
theorem dX12_init_340 : decode cX12_init 340 = .ok (.aload_n 0, 1) := by decide +kernel
theorem dX12_init_341 : decode cX12_init 341 = .ok (.bipush 84, 2) := by decide +kernel
theorem dX12_init_343 : decode cX12_init 343 = .ok (.newarray .int, 2) := by decide +kernel
theorem dX12_init_345 : decode cX12_init 345 = .ok (.putfield 139, 3) := by decide +kernel
theorem dX12_init_348 : decode cX12_init 348 = .ok (.return_, 1) := by decide +kernel
theorem dX12_feed_0 : decode cX12_feed 0 = .ok (.aload_n 0, 1) := by decide +kernel
theorem dX12_feed_1 : decode cX12_feed 1 = .ok (.getfield 142, 3) := by decide +kernel
theorem dX12_feed_4 : decode cX12_feed 4 = .ok (.bipush 20, 2) := by decide +kernel
theorem dX12_feed_6 : decode cX12_feed 6 = .ok (.iadd, 1) := by decide +kernel
theorem dX12_feed_7 : decode cX12_feed 7 = .ok (.sipush 1600, 3) := by decide +kernel
theorem dX12_feed_10 : decode cX12_feed 10 = .ok (.if_icmp .le 5, 3) := by decide +kernel
theorem dX12_feed_13 : decode cX12_feed 13 = .ok (.iconst (-1), 1) := by decide +kernel
theorem dX12_feed_14 : decode cX12_feed 14 = .ok (.ireturn, 1) := by decide +kernel
theorem dX12_feed_15 : decode cX12_feed 15 = .ok (.aload_n 0, 1) := by decide +kernel
theorem dX12_feed_16 : decode cX12_feed 16 = .ok (.iload_n 1, 1) := by decide +kernel
theorem dX12_feed_17 : decode cX12_feed 17 = .ok (.invokevirtual 145, 3) := by decide +kernel
theorem dX12_feed_20 : decode cX12_feed 20 = .ok (.aload_n 0, 1) := by decide +kernel
theorem dX12_feed_21 : decode cX12_feed 21 = .ok (.iload_n 2, 1) := by decide +kernel
theorem dX12_feed_22 : decode cX12_feed 22 = .ok (.invokevirtual 145, 3) := by decide +kernel
theorem dX12_feed_25 : decode cX12_feed 25 = .ok (.aload_n 0, 1) := by decide +kernel
theorem dX12_feed_26 : decode cX12_feed 26 = .ok (.iload_n 3, 1) := by decide +kernel
theorem dX12_feed_27 : decode cX12_feed 27 = .ok (.invokevirtual 145, 3) := by decide +kernel
theorem dX12_feed_30 : decode cX12_feed 30 = .ok (.aload_n 0, 1) := by decide +kernel
theorem dX12_feed_31 : decode cX12_feed 31 = .ok (.iload 4, 2) := by decide +kernel
theorem dX12_feed_33 : decode cX12_feed 33 = .ok (.invokevirtual 145, 3) := by decide +kernel
theorem dX12_feed_36 : decode cX12_feed 36 = .ok (.aload_n 0, 1) := by decide +kernel
theorem dX12_feed_37 : decode cX12_feed 37 = .ok (.iload 5, 2) := by decide +kernel
theorem dX12_feed_39 : decode cX12_feed 39 = .ok (.invokevirtual 145, 3) := by decide +kernel
theorem dX12_feed_42 : decode cX12_feed 42 = .ok (.aload_n 0, 1) := by decide +kernel
theorem dX12_feed_43 : decode cX12_feed 43 = .ok (.getfield 142, 3) := by decide +kernel
theorem dX12_feed_46 : decode cX12_feed 46 = .ok (.ireturn, 1) := by decide +kernel
theorem dX12_four_0 : decode cX12_four 0 = .ok (.bipush 24, 2) := by decide +kernel
theorem dX12_four_2 : decode cX12_four 2 = .ok (.istore_n 2, 1) := by decide +kernel
theorem dX12_four_3 : decode cX12_four 3 = .ok (.iload_n 2, 1) := by decide +kernel
theorem dX12_four_4 : decode cX12_four 4 = .ok (.ifCond .lt 35, 3) := by decide +kernel
theorem dX12_four_7 : decode cX12_four 7 = .ok (.aload_n 0, 1) := by decide +kernel
theorem dX12_four_8 : decode cX12_four 8 = .ok (.getfield 7, 3) := by decide +kernel
theorem dX12_four_11 : decode cX12_four 11 = .ok (.aload_n 0, 1) := by decide +kernel
theorem dX12_four_12 : decode cX12_four 12 = .ok (.getfield 142, 3) := by decide +kernel
theorem dX12_four_15 : decode cX12_four 15 = .ok (.iload_n 1, 1) := by decide +kernel
theorem dX12_four_16 : decode cX12_four 16 = .ok (.iload_n 2, 1) := by decide +kernel
theorem dX12_four_17 : decode cX12_four 17 = .ok (.ishr, 1) := by decide +kernel
theorem dX12_four_18 : decode cX12_four 18 = .ok (.sipush 255, 3) := by decide +kernel
theorem dX12_four_21 : decode cX12_four 21 = .ok (.iand, 1) := by decide +kernel
theorem dX12_four_22 : decode cX12_four 22 = .ok (.iastore, 1) := by decide +kernel
theorem dX12_four_23 : decode cX12_four 23 = .ok (.aload_n 0, 1) := by decide +kernel
theorem dX12_four_24 : decode cX12_four 24 = .ok (.dup, 1) := by decide +kernel
theorem dX12_four_25 : decode cX12_four 25 = .ok (.getfield 142, 3) := by decide +kernel
theorem dX12_four_28 : decode cX12_four 28 = .ok (.iconst 1, 1) := by decide +kernel
theorem dX12_four_29 : decode cX12_four 29 = .ok (.iadd, 1) := by decide +kernel
theorem dX12_four_30 : decode cX12_four 30 = .ok (.putfield 142, 3) := by decide +kernel
theorem dX12_four_33 : decode cX12_four 33 = .ok (.iinc 2 (-8), 3) := by decide +kernel
theorem dX12_four_36 : decode cX12_four 36 = .ok (.goto (-33), 3) := by decide +kernel
theorem dX12_four_39 : decode cX12_four 39 = .ok (.return_, 1) := by decide +kernel
theorem dX12_end_0 : decode cX12_end 0 = .ok (.iload_n 1, 1) := by decide +kernel
theorem dX12_end_1 : decode cX12_end 1 = .ok (.ifCond .lt 11, 3) := by decide +kernel
theorem dX12_end_4 : decode cX12_end 4 = .ok (.iload_n 1, 1) := by decide +kernel
theorem dX12_end_5 : decode cX12_end 5 = .ok (.aload_n 0, 1) := by decide +kernel
theorem dX12_end_6 : decode cX12_end 6 = .ok (.getfield 142, 3) := by decide +kernel
theorem dX12_end_9 : decode cX12_end 9 = .ok (.if_icmp .le 5, 3) := by decide +kernel
theorem dX12_end_12 : decode cX12_end 12 = .ok (.iconst (-1), 1) := by decide +kernel
theorem dX12_end_13 : decode cX12_end 13 = .ok (.ireturn, 1) := by decide +kernel
theorem dX12_end_14 : decode cX12_end 14 = .ok (.aload_n 0, 1) := by decide +kernel
theorem dX12_end_15 : decode cX12_end 15 = .ok (.iload_n 1, 1) := by decide +kernel
theorem dX12_end_16 : decode cX12_end 16 = .ok (.putfield 142, 3) := by decide +kernel
theorem dX12_end_19 : decode cX12_end 19 = .ok (.iload_n 1, 1) := by decide +kernel
theorem dX12_end_20 : decode cX12_end 20 = .ok (.ireturn, 1) := by decide +kernel
theorem dX12_here_0 : decode cX12_here 0 = .ok (.aload_n 0, 1) := by decide +kernel
theorem dX12_here_1 : decode cX12_here 1 = .ok (.getfield 149, 3) := by decide +kernel
theorem dX12_here_4 : decode cX12_here 4 = .ok (.iload_n 1, 1) := by decide +kernel
theorem dX12_here_5 : decode cX12_here 5 = .ok (.iadd, 1) := by decide +kernel
theorem dX12_here_6 : decode cX12_here 6 = .ok (.aload_n 0, 1) := by decide +kernel
theorem dX12_here_7 : decode cX12_here 7 = .ok (.getfield 152, 3) := by decide +kernel
theorem dX12_here_10 : decode cX12_here 10 = .ok (.if_icmp .ge 17, 3) := by decide +kernel
theorem dX12_here_13 : decode cX12_here 13 = .ok (.aload_n 0, 1) := by decide +kernel
