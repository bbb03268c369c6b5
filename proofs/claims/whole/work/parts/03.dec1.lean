theorem dX0_init_0 : decode cX0_init 0 = .ok (.aload_n 0, 1) := by decide +kernel
theorem dX0_init_1 : decode cX0_init 1 = .ok (.invokespecial 3, 3) := by decide +kernel
theorem dX0_init_4 : decode cX0_init 4 = .ok (.aload_n 0, 1) := by decide +kernel
theorem dX0_init_5 : decode cX0_init 5 = .ok (.bipush 30, 2) := by decide +kernel
theorem dX0_init_7 : decode cX0_init 7 = .ok (.newarray .boolean, 2) := by decide +kernel
theorem dX0_init_9 : decode cX0_init 9 = .ok (.putfield 11, 3) := by decide +kernel
theorem dX0_init_12 : decode cX0_init 12 = .ok (.aload_n 0, 1) := by decide +kernel
theorem dX0_init_13 : decode cX0_init 13 = .ok (.bipush 30, 2) := by decide +kernel
theorem dX0_init_15 : decode cX0_init 15 = .ok (.newarray .boolean, 2) := by decide +kernel
theorem dX0_init_17 : decode cX0_init 17 = .ok (.putfield 15, 3) := by decide +kernel
theorem dX0_init_20 : decode cX0_init 20 = .ok (.aload_n 0, 1) := by decide +kernel
theorem dX0_init_21 : decode cX0_init 21 = .ok (.bipush 30, 2) := by decide +kernel
theorem dX0_init_23 : decode cX0_init 23 = .ok (.newarray .int, 2) := by decide +kernel
theorem dX0_init_25 : decode cX0_init 25 = .ok (.putfield 18, 3) := by decide +kernel
theorem dX0_init_28 : decode cX0_init 28 = .ok (.aload_n 0, 1) := by decide +kernel
theorem dX0_init_29 : decode cX0_init 29 = .ok (.bipush 30, 2) := by decide +kernel
theorem dX0_init_31 : decode cX0_init 31 = .ok (.newarray .int, 2) := by decide +kernel
theorem dX0_init_33 : decode cX0_init 33 = .ok (.putfield 22, 3) := by decide +kernel
theorem dX0_init_36 : decode cX0_init 36 = .ok (.aload_n 0, 1) := by decide +kernel
theorem dX0_init_37 : decode cX0_init 37 = .ok (.bipush 30, 2) := by decide +kernel
theorem dX0_init_39 : decode cX0_init 39 = .ok (.newarray .int, 2) := by decide +kernel
theorem dX0_init_41 : decode cX0_init 41 = .ok (.putfield 25, 3) := by decide +kernel
theorem dX0_init_44 : decode cX0_init 44 = .ok (.aload_n 0, 1) := by decide +kernel
theorem dX0_init_45 : decode cX0_init 45 = .ok (.iconst 0, 1) := by decide +kernel
theorem dX0_init_46 : decode cX0_init 46 = .ok (.putfield 28, 3) := by decide +kernel
theorem dX0_init_49 : decode cX0_init 49 = .ok (.aload_n 0, 1) := by decide +kernel
theorem dX0_init_50 : decode cX0_init 50 = .ok (.iconst 0, 1) := by decide +kernel
theorem dX0_init_51 : decode cX0_init 51 = .ok (.putfield 32, 3) := by decide +kernel
theorem dX0_init_54 : decode cX0_init 54 = .ok (.aload_n 0, 1) := by decide +kernel
theorem dX0_init_55 : decode cX0_init 55 = .ok (.iconst 0, 1) := by decide +kernel
theorem dX0_init_56 : decode cX0_init 56 = .ok (.putfield 35, 3) := by decide +kernel
theorem dX0_init_59 : decode cX0_init 59 = .ok (.aload_n 0, 1) := by decide +kernel
theorem dX0_init_60 : decode cX0_init 60 = .ok (.iconst 0, 1) := by decide +kernel
theorem dX0_init_61 : decode cX0_init 61 = .ok (.putfield 38, 3) := by decide +kernel
theorem dX0_init_64 : decode cX0_init 64 = .ok (.aload_n 0, 1) := by decide +kernel
theorem dX0_init_65 : decode cX0_init 65 = .ok (.iconst 0, 1) := by decide +kernel
theorem dX0_init_66 : decode cX0_init 66 = .ok (.putfield 41, 3) := by decide +kernel
theorem dX0_init_69 : decode cX0_init 69 = .ok (.aload_n 0, 1) := by decide +kernel
theorem dX0_init_70 : decode cX0_init 70 = .ok (.iconst 0, 1) := by decide +kernel
theorem dX0_init_71 : decode cX0_init 71 = .ok (.putfield 44, 3) := by decide +kernel
theorem dX0_init_74 : decode cX0_init 74 = .ok (.aload_n 0, 1) := by decide +kernel
theorem dX0_init_75 : decode cX0_init 75 = .ok (.iconst 0, 1) := by decide +kernel
theorem dX0_init_76 : decode cX0_init 76 = .ok (.putfield 47, 3) := by decide +kernel
theorem dX0_init_79 : decode cX0_init 79 = .ok (.aload_n 0, 1) := by decide +kernel
theorem dX0_init_80 : decode cX0_init 80 = .ok (.iconst 0, 1) := by decide +kernel
theorem dX0_init_81 : decode cX0_init 81 = .ok (.putfield 50, 3) := by decide +kernel
theorem dX0_init_84 : decode cX0_init 84 = .ok (.aload_n 0, 1) := by decide +kernel
theorem dX0_init_85 : decode cX0_init 85 = .ok (.bipush 21, 2) := by decide +kernel
theorem dX0_init_87 : decode cX0_init 87 = .ok (.newarray .int, 2) := by decide +kernel
theorem dX0_init_89 : decode cX0_init 89 = .ok (.putfield 53, 3) := by decide +kernel
theorem dX0_init_92 : decode cX0_init 92 = .ok (.return_, 1) := by decide +kernel
theorem dX0_clear_0 : decode cX0_clear 0 = .ok (.aload_n 0, 1) := by decide +kernel
theorem dX0_clear_1 : decode cX0_clear 1 = .ok (.iconst 0, 1) := by decide +kernel
theorem dX0_clear_2 : decode cX0_clear 2 = .ok (.putfield 28, 3) := by decide +kernel
theorem dX0_clear_5 : decode cX0_clear 5 = .ok (.return_, 1) := by decide +kernel
theorem dX0_tell_0 : decode cX0_tell 0 = .ok (.aload_n 0, 1) := by decide +kernel
theorem dX0_tell_1 : decode cX0_tell 1 = .ok (.getfield 28, 3) := by decide +kernel
theorem dX0_tell_4 : decode cX0_tell 4 = .ok (.ifCond .lt 12, 3) := by decide +kernel
theorem dX0_tell_7 : decode cX0_tell 7 = .ok (.aload_n 0, 1) := by decide +kernel
theorem dX0_tell_8 : decode cX0_tell 8 = .ok (.getfield 28, 3) := by decide +kernel
theorem dX0_tell_11 : decode cX0_tell 11 = .ok (.bipush 30, 2) := by decide +kernel
theorem dX0_tell_13 : decode cX0_tell 13 = .ok (.if_icmp .lt 5, 3) := by decide +kernel
theorem dX0_tell_16 : decode cX0_tell 16 = .ok (.iconst (-1), 1) := by decide +kernel
theorem dX0_tell_17 : decode cX0_tell 17 = .ok (.ireturn, 1) := by decide +kernel
theorem dX0_tell_18 : decode cX0_tell 18 = .ok (.aload_n 0, 1) := by decide +kernel
theorem dX0_tell_19 : decode cX0_tell 19 = .ok (.getfield 11, 3) := by decide +kernel
theorem dX0_tell_22 : decode cX0_tell 22 = .ok (.aload_n 0, 1) := by decide +kernel
theorem dX0_tell_23 : decode cX0_tell 23 = .ok (.getfield 28, 3) := by decide +kernel
theorem dX0_tell_26 : decode cX0_tell 26 = .ok (.iload_n 1, 1) := by decide +kernel
theorem dX0_tell_27 : decode cX0_tell 27 = .ok (.bastore, 1) := by decide +kernel
theorem dX0_tell_28 : decode cX0_tell 28 = .ok (.aload_n 0, 1) := by decide +kernel
theorem dX0_tell_29 : decode cX0_tell 29 = .ok (.getfield 15, 3) := by decide +kernel
theorem dX0_tell_32 : decode cX0_tell 32 = .ok (.aload_n 0, 1) := by decide +kernel
theorem dX0_tell_33 : decode cX0_tell 33 = .ok (.getfield 28, 3) := by decide +kernel
theorem dX0_tell_36 : decode cX0_tell 36 = .ok (.iload_n 3, 1) := by decide +kernel
theorem dX0_tell_37 : decode cX0_tell 37 = .ok (.bastore, 1) := by decide +kernel
theorem dX0_tell_38 : decode cX0_tell 38 = .ok (.aload_n 0, 1) := by decide +kernel
theorem dX0_tell_39 : decode cX0_tell 39 = .ok (.getfield 18, 3) := by decide +kernel
theorem dX0_tell_42 : decode cX0_tell 42 = .ok (.aload_n 0, 1) := by decide +kernel
theorem dX0_tell_43 : decode cX0_tell 43 = .ok (.getfield 28, 3) := by decide +kernel
theorem dX0_tell_46 : decode cX0_tell 46 = .ok (.iload_n 2, 1) := by decide +kernel
theorem dX0_tell_47 : decode cX0_tell 47 = .ok (.iastore, 1) := by decide +kernel
theorem dX0_tell_48 : decode cX0_tell 48 = .ok (.aload_n 0, 1) := by decide +kernel
theorem dX0_tell_49 : decode cX0_tell 49 = .ok (.getfield 22, 3) := by decide +kernel
theorem dX0_tell_52 : decode cX0_tell 52 = .ok (.aload_n 0, 1) := by decide +kernel
theorem dX0_tell_53 : decode cX0_tell 53 = .ok (.getfield 28, 3) := by decide +kernel
theorem dX0_tell_56 : decode cX0_tell 56 = .ok (.aload_n 0, 1) := by decide +kernel
theorem dX0_tell_57 : decode cX0_tell 57 = .ok (.getfield 32, 3) := by decide +kernel
theorem dX0_tell_60 : decode cX0_tell 60 = .ok (.iastore, 1) := by decide +kernel
theorem dX0_tell_61 : decode cX0_tell 61 = .ok (.aload_n 0, 1) := by decide +kernel
theorem dX0_tell_62 : decode cX0_tell 62 = .ok (.getfield 25, 3) := by decide +kernel
theorem dX0_tell_65 : decode cX0_tell 65 = .ok (.aload_n 0, 1) := by decide +kernel
theorem dX0_tell_66 : decode cX0_tell 66 = .ok (.getfield 28, 3) := by decide +kernel
theorem dX0_tell_69 : decode cX0_tell 69 = .ok (.iconst (-1), 1) := by decide +kernel
theorem dX0_tell_70 : decode cX0_tell 70 = .ok (.iastore, 1) := by decide +kernel
theorem dX0_tell_71 : decode cX0_tell 71 = .ok (.aload_n 0, 1) := by decide +kernel
theorem dX0_tell_72 : decode cX0_tell 72 = .ok (.dup, 1) := by decide +kernel
theorem dX0_tell_73 : decode cX0_tell 73 = .ok (.getfield 28, 3) := by decide +kernel
theorem dX0_tell_76 : decode cX0_tell 76 = .ok (.iconst 1, 1) := by decide +kernel
theorem dX0_tell_77 : decode cX0_tell 77 = .ok (.iadd, 1) := by decide +kernel
theorem dX0_tell_78 : decode cX0_tell 78 = .ok (.putfield 28, 3) := by decide +kernel
theorem dX0_tell_81 : decode cX0_tell 81 = .ok (.aload_n 0, 1) := by decide +kernel
theorem dX0_tell_82 : decode cX0_tell 82 = .ok (.getfield 28, 3) := by decide +kernel
theorem dX0_tell_85 : decode cX0_tell 85 = .ok (.iconst 1, 1) := by decide +kernel
theorem dX0_tell_86 : decode cX0_tell 86 = .ok (.isub, 1) := by decide +kernel
theorem dX0_tell_87 : decode cX0_tell 87 = .ok (.ireturn, 1) := by decide +kernel
theorem dX0_takeOut_0 : decode cX0_takeOut 0 = .ok (.iload_n 1, 1) := by decide +kernel
theorem dX0_takeOut_1 : decode cX0_takeOut 1 = .ok (.ifCond .lt 27, 3) := by decide +kernel
theorem dX0_takeOut_4 : decode cX0_takeOut 4 = .ok (.iload_n 1, 1) := by decide +kernel
theorem dX0_takeOut_5 : decode cX0_takeOut 5 = .ok (.aload_n 0, 1) := by decide +kernel
theorem dX0_takeOut_6 : decode cX0_takeOut 6 = .ok (.getfield 28, 3) := by decide +kernel
theorem dX0_takeOut_9 : decode cX0_takeOut 9 = .ok (.if_icmp .ge 19, 3) := by decide +kernel
theorem dX0_takeOut_12 : decode cX0_takeOut 12 = .ok (.iload_n 1, 1) := by decide +kernel
theorem dX0_takeOut_13 : decode cX0_takeOut 13 = .ok (.bipush 30, 2) := by decide +kernel
theorem dX0_takeOut_15 : decode cX0_takeOut 15 = .ok (.if_icmp .ge 13, 3) := by decide +kernel
theorem dX0_takeOut_18 : decode cX0_takeOut 18 = .ok (.aload_n 0, 1) := by decide +kernel
theorem dX0_takeOut_19 : decode cX0_takeOut 19 = .ok (.getfield 25, 3) := by decide +kernel
theorem dX0_takeOut_22 : decode cX0_takeOut 22 = .ok (.iload_n 1, 1) := by decide +kernel
theorem dX0_takeOut_23 : decode cX0_takeOut 23 = .ok (.iaload, 1) := by decide +kernel
theorem dX0_takeOut_24 : decode cX0_takeOut 24 = .ok (.iconst (-1), 1) := by decide +kernel
theorem dX0_takeOut_25 : decode cX0_takeOut 25 = .ok (.if_icmp .eq 5, 3) := by decide +kernel
theorem dX0_takeOut_28 : decode cX0_takeOut 28 = .ok (.iconst 0, 1) := by decide +kernel
theorem dX0_takeOut_29 : decode cX0_takeOut 29 = .ok (.ireturn, 1) := by decide +kernel
theorem dX0_takeOut_30 : decode cX0_takeOut 30 = .ok (.aload_n 0, 1) := by decide +kernel
theorem dX0_takeOut_31 : decode cX0_takeOut 31 = .ok (.getfield 25, 3) := by decide +kernel
theorem dX0_takeOut_34 : decode cX0_takeOut 34 = .ok (.iload_n 1, 1) := by decide +kernel
theorem dX0_takeOut_35 : decode cX0_takeOut 35 = .ok (.aload_n 0, 1) := by decide +kernel
theorem dX0_takeOut_36 : decode cX0_takeOut 36 = .ok (.getfield 32, 3) := by decide +kernel
theorem dX0_takeOut_39 : decode cX0_takeOut 39 = .ok (.iastore, 1) := by decide +kernel
theorem dX0_takeOut_40 : decode cX0_takeOut 40 = .ok (.iconst 1, 1) := by decide +kernel
theorem dX0_takeOut_41 : decode cX0_takeOut 41 = .ok (.ireturn, 1) := by decide +kernel
theorem dX0_passTime_0 : decode cX0_passTime 0 = .ok (.iload_n 1, 1) := by decide +kernel
theorem dX0_passTime_1 : decode cX0_passTime 1 = .ok (.ifCond .lt 21, 3) := by decide +kernel
theorem dX0_passTime_4 : decode cX0_passTime 4 = .ok (.iload_n 1, 1) := by decide +kernel
theorem dX0_passTime_5 : decode cX0_passTime 5 = .ok (.sipush 1000, 3) := by decide +kernel
theorem dX0_passTime_8 : decode cX0_passTime 8 = .ok (.if_icmp .gt 14, 3) := by decide +kernel
theorem dX0_passTime_11 : decode cX0_passTime 11 = .ok (.aload_n 0, 1) := by decide +kernel
theorem dX0_passTime_12 : decode cX0_passTime 12 = .ok (.getfield 32, 3) := by decide +kernel
theorem dX0_passTime_15 : decode cX0_passTime 15 = .ok (.ldc 56, 2) := by decide +kernel
theorem dX0_passTime_17 : decode cX0_passTime 17 = .ok (.iload_n 1, 1) := by decide +kernel
theorem dX0_passTime_18 : decode cX0_passTime 18 = .ok (.isub, 1) := by decide +kernel
theorem dX0_passTime_19 : decode cX0_passTime 19 = .ok (.if_icmp .le 5, 3) := by decide +kernel
theorem dX0_passTime_22 : decode cX0_passTime 22 = .ok (.iconst (-1), 1) := by decide +kernel
theorem dX0_passTime_23 : decode cX0_passTime 23 = .ok (.ireturn, 1) := by decide +kernel
theorem dX0_passTime_24 : decode cX0_passTime 24 = .ok (.aload_n 0, 1) := by decide +kernel
theorem dX0_passTime_25 : decode cX0_passTime 25 = .ok (.dup, 1) := by decide +kernel
theorem dX0_passTime_26 : decode cX0_passTime 26 = .ok (.getfield 32, 3) := by decide +kernel
theorem dX0_passTime_29 : decode cX0_passTime 29 = .ok (.iload_n 1, 1) := by decide +kernel
theorem dX0_passTime_30 : decode cX0_passTime 30 = .ok (.iadd, 1) := by decide +kernel
theorem dX0_passTime_31 : decode cX0_passTime 31 = .ok (.putfield 32, 3) := by decide +kernel
theorem dX0_passTime_34 : decode cX0_passTime 34 = .ok (.aload_n 0, 1) := by decide +kernel
theorem dX0_passTime_35 : decode cX0_passTime 35 = .ok (.getfield 32, 3) := by decide +kernel
theorem dX0_passTime_38 : decode cX0_passTime 38 = .ok (.ireturn, 1) := by decide +kernel
theorem dX0_look_0 : decode cX0_look 0 = .ok (.aload_n 0, 1) := by decide +kernel
theorem dX0_look_1 : decode cX0_look 1 = .ok (.iload_n 2, 1) := by decide +kernel
theorem dX0_look_2 : decode cX0_look 2 = .ok (.invokevirtual 57, 3) := by decide +kernel
theorem dX0_look_5 : decode cX0_look 5 = .ok (.aload_n 0, 1) := by decide +kernel
theorem dX0_look_6 : decode cX0_look 6 = .ok (.iconst 0, 1) := by decide +kernel
theorem dX0_look_7 : decode cX0_look 7 = .ok (.putfield 47, 3) := by decide +kernel
theorem dX0_look_10 : decode cX0_look 10 = .ok (.aload_n 0, 1) := by decide +kernel
theorem dX0_look_11 : decode cX0_look 11 = .ok (.iconst 0, 1) := by decide +kernel
theorem dX0_look_12 : decode cX0_look 12 = .ok (.putfield 50, 3) := by decide +kernel
theorem dX0_look_15 : decode cX0_look 15 = .ok (.iconst 0, 1) := by decide +kernel
theorem dX0_look_16 : decode cX0_look 16 = .ok (.istore_n 3, 1) := by decide +kernel
theorem dX0_look_17 : decode cX0_look 17 = .ok (.iload_n 3, 1) := by decide +kernel
theorem dX0_look_18 : decode cX0_look 18 = .ok (.bipush 20, 2) := by decide +kernel
theorem dX0_look_20 : decode cX0_look 20 = .ok (.if_icmp .gt 16, 3) := by decide +kernel
theorem dX0_look_23 : decode cX0_look 23 = .ok (.aload_n 0, 1) := by decide +kernel
theorem dX0_look_24 : decode cX0_look 24 = .ok (.getfield 53, 3) := by decide +kernel
theorem dX0_look_27 : decode cX0_look 27 = .ok (.iload_n 3, 1) := by decide +kernel
theorem dX0_look_28 : decode cX0_look 28 = .ok (.iconst 0, 1) := by decide +kernel
theorem dX0_look_29 : decode cX0_look 29 = .ok (.iastore, 1) := by decide +kernel
theorem dX0_look_30 : decode cX0_look 30 = .ok (.iinc 3 1, 3) := by decide +kernel
theorem dX0_look_33 : decode cX0_look 33 = .ok (.goto (-16), 3) := by decide +kernel
theorem dX0_look_36 : decode cX0_look 36 = .ok (.iconst 0, 1) := by decide +kernel
theorem dX0_look_37 : decode cX0_look 37 = .ok (.istore_n 3, 1) := by decide +kernel
theorem dX0_look_38 : decode cX0_look 38 = .ok (.iload_n 3, 1) := by decide +kernel
theorem dX0_look_39 : decode cX0_look 39 = .ok (.aload_n 1, 1) := by decide +kernel
theorem dX0_look_40 : decode cX0_look 40 = .ok (.getfield 61, 3) := by decide +kernel
theorem dX0_look_43 : decode cX0_look 43 = .ok (.if_icmp .ge 41, 3) := by decide +kernel
theorem dX0_look_46 : decode cX0_look 46 = .ok (.aload_n 1, 1) := by decide +kernel
theorem dX0_look_47 : decode cX0_look 47 = .ok (.getfield 66, 3) := by decide +kernel
theorem dX0_look_50 : decode cX0_look 50 = .ok (.iload_n 3, 1) := by decide +kernel
theorem dX0_look_51 : decode cX0_look 51 = .ok (.iaload, 1) := by decide +kernel
theorem dX0_look_52 : decode cX0_look 52 = .ok (.aload_n 0, 1) := by decide +kernel
theorem dX0_look_53 : decode cX0_look 53 = .ok (.getfield 41, 3) := by decide +kernel
theorem dX0_look_56 : decode cX0_look 56 = .ok (.if_icmp .lt 22, 3) := by decide +kernel
theorem dX0_look_59 : decode cX0_look 59 = .ok (.aload_n 1, 1) := by decide +kernel
theorem dX0_look_60 : decode cX0_look 60 = .ok (.getfield 66, 3) := by decide +kernel
theorem dX0_look_63 : decode cX0_look 63 = .ok (.iload_n 3, 1) := by decide +kernel
theorem dX0_look_64 : decode cX0_look 64 = .ok (.iaload, 1) := by decide +kernel
theorem dX0_look_65 : decode cX0_look 65 = .ok (.aload_n 0, 1) := by decide +kernel
theorem dX0_look_66 : decode cX0_look 66 = .ok (.getfield 44, 3) := by decide +kernel
theorem dX0_look_69 : decode cX0_look 69 = .ok (.if_icmp .ge 9, 3) := by decide +kernel
theorem dX0_look_72 : decode cX0_look 72 = .ok (.aload_n 0, 1) := by decide +kernel
theorem dX0_look_73 : decode cX0_look 73 = .ok (.aload_n 1, 1) := by decide +kernel
theorem dX0_look_74 : decode cX0_look 74 = .ok (.iload_n 3, 1) := by decide +kernel
theorem dX0_look_75 : decode cX0_look 75 = .ok (.invokevirtual 69, 3) := by decide +kernel
theorem dX0_look_78 : decode cX0_look 78 = .ok (.iinc 3 1, 3) := by decide +kernel
theorem dX0_look_81 : decode cX0_look 81 = .ok (.goto (-43), 3) := by decide +kernel
theorem dX0_look_84 : decode cX0_look 84 = .ok (.return_, 1) := by decide +kernel
theorem dX0_readMarks_0 : decode cX0_readMarks 0 = .ok (.aload_n 0, 1) := by decide +kernel
theorem dX0_readMarks_1 : decode cX0_readMarks 1 = .ok (.iconst 0, 1) := by decide +kernel
theorem dX0_readMarks_2 : decode cX0_readMarks 2 = .ok (.putfield 35, 3) := by decide +kernel
theorem dX0_readMarks_5 : decode cX0_readMarks 5 = .ok (.aload_n 0, 1) := by decide +kernel
theorem dX0_readMarks_6 : decode cX0_readMarks 6 = .ok (.iconst 0, 1) := by decide +kernel
theorem dX0_readMarks_7 : decode cX0_readMarks 7 = .ok (.putfield 38, 3) := by decide +kernel
theorem dX0_readMarks_10 : decode cX0_readMarks 10 = .ok (.aload_n 0, 1) := by decide +kernel
theorem dX0_readMarks_11 : decode cX0_readMarks 11 = .ok (.iconst 0, 1) := by decide +kernel
theorem dX0_readMarks_12 : decode cX0_readMarks 12 = .ok (.putfield 41, 3) := by decide +kernel
theorem dX0_readMarks_15 : decode cX0_readMarks 15 = .ok (.aload_n 0, 1) := by decide +kernel
theorem dX0_readMarks_16 : decode cX0_readMarks 16 = .ok (.bipush 10, 2) := by decide +kernel
theorem dX0_readMarks_18 : decode cX0_readMarks 18 = .ok (.putfield 44, 3) := by decide +kernel
theorem dX0_readMarks_21 : decode cX0_readMarks 21 = .ok (.iconst 0, 1) := by decide +kernel
theorem dX0_readMarks_22 : decode cX0_readMarks 22 = .ok (.istore_n 2, 1) := by decide +kernel
theorem dX0_readMarks_23 : decode cX0_readMarks 23 = .ok (.iload_n 2, 1) := by decide +kernel
theorem dX0_readMarks_24 : decode cX0_readMarks 24 = .ok (.aload_n 0, 1) := by decide +kernel
theorem dX0_readMarks_25 : decode cX0_readMarks 25 = .ok (.getfield 28, 3) := by decide +kernel
theorem dX0_readMarks_28 : decode cX0_readMarks 28 = .ok (.if_icmp .ge 29, 3) := by decide +kernel
theorem dX0_readMarks_31 : decode cX0_readMarks 31 = .ok (.iload_n 2, 1) := by decide +kernel
theorem dX0_readMarks_32 : decode cX0_readMarks 32 = .ok (.bipush 30, 2) := by decide +kernel
theorem dX0_readMarks_34 : decode cX0_readMarks 34 = .ok (.if_icmp .ge 23, 3) := by decide +kernel
theorem dX0_readMarks_37 : decode cX0_readMarks 37 = .ok (.aload_n 0, 1) := by decide +kernel
theorem dX0_readMarks_38 : decode cX0_readMarks 38 = .ok (.iload_n 2, 1) := by decide +kernel
theorem dX0_readMarks_39 : decode cX0_readMarks 39 = .ok (.iload_n 1, 1) := by decide +kernel
theorem dX0_readMarks_40 : decode cX0_readMarks 40 = .ok (.invokevirtual 73, 3) := by decide +kernel
theorem dX0_readMarks_43 : decode cX0_readMarks 43 = .ok (.ifCond .eq 8, 3) := by decide +kernel
theorem dX0_readMarks_46 : decode cX0_readMarks 46 = .ok (.aload_n 0, 1) := by decide +kernel
theorem dX0_readMarks_47 : decode cX0_readMarks 47 = .ok (.iload_n 2, 1) := by decide +kernel
theorem dX0_readMarks_48 : decode cX0_readMarks 48 = .ok (.invokevirtual 77, 3) := by decide +kernel
theorem dX0_readMarks_51 : decode cX0_readMarks 51 = .ok (.iinc 2 1, 3) := by decide +kernel
theorem dX0_readMarks_54 : decode cX0_readMarks 54 = .ok (.goto (-31), 3) := by decide +kernel
theorem dX0_readMarks_57 : decode cX0_readMarks 57 = .ok (.return_, 1) := by decide +kernel
theorem dX0_counts_0 : decode cX0_counts 0 = .ok (.aload_n 0, 1) := by decide +kernel
theorem dX0_counts_1 : decode cX0_counts 1 = .ok (.getfield 22, 3) := by decide +kernel
theorem dX0_counts_4 : decode cX0_counts 4 = .ok (.iload_n 1, 1) := by decide +kernel
theorem dX0_counts_5 : decode cX0_counts 5 = .ok (.iaload, 1) := by decide +kernel
theorem dX0_counts_6 : decode cX0_counts 6 = .ok (.iload_n 2, 1) := by decide +kernel
theorem dX0_counts_7 : decode cX0_counts 7 = .ok (.if_icmp .gt 27, 3) := by decide +kernel
theorem dX0_counts_10 : decode cX0_counts 10 = .ok (.aload_n 0, 1) := by decide +kernel
theorem dX0_counts_11 : decode cX0_counts 11 = .ok (.getfield 25, 3) := by decide +kernel
theorem dX0_counts_14 : decode cX0_counts 14 = .ok (.iload_n 1, 1) := by decide +kernel
theorem dX0_counts_15 : decode cX0_counts 15 = .ok (.iaload, 1) := by decide +kernel
theorem dX0_counts_16 : decode cX0_counts 16 = .ok (.iconst (-1), 1) := by decide +kernel
theorem dX0_counts_17 : decode cX0_counts 17 = .ok (.if_icmp .eq 13, 3) := by decide +kernel
theorem dX0_counts_20 : decode cX0_counts 20 = .ok (.aload_n 0, 1) := by decide +kernel
theorem dX0_counts_21 : decode cX0_counts 21 = .ok (.getfield 25, 3) := by decide +kernel
theorem dX0_counts_24 : decode cX0_counts 24 = .ok (.iload_n 1, 1) := by decide +kernel
theorem dX0_counts_25 : decode cX0_counts 25 = .ok (.iaload, 1) := by decide +kernel
theorem dX0_counts_26 : decode cX0_counts 26 = .ok (.iload_n 2, 1) := by decide +kernel
theorem dX0_counts_27 : decode cX0_counts 27 = .ok (.if_icmp .le 7, 3) := by decide +kernel
theorem dX0_counts_30 : decode cX0_counts 30 = .ok (.iconst 1, 1) := by decide +kernel
theorem dX0_counts_31 : decode cX0_counts 31 = .ok (.goto 4, 3) := by decide +kernel
theorem dX0_counts_34 : decode cX0_counts 34 = .ok (.iconst 0, 1) := by decide +kernel
theorem dX0_counts_35 : decode cX0_counts 35 = .ok (.ireturn, 1) := by decide +kernel
theorem dX0_readMark_0 : decode cX0_readMark 0 = .ok (.aload_n 0, 1) := by decide +kernel
theorem dX0_readMark_1 : decode cX0_readMark 1 = .ok (.getfield 11, 3) := by decide +kernel
theorem dX0_readMark_4 : decode cX0_readMark 4 = .ok (.iload_n 1, 1) := by decide +kernel
theorem dX0_readMark_5 : decode cX0_readMark 5 = .ok (.baload, 1) := by decide +kernel
theorem dX0_readMark_6 : decode cX0_readMark 6 = .ok (.ifCond .eq 32, 3) := by decide +kernel
theorem dX0_readMark_9 : decode cX0_readMark 9 = .ok (.aload_n 0, 1) := by decide +kernel
theorem dX0_readMark_10 : decode cX0_readMark 10 = .ok (.getfield 15, 3) := by decide +kernel
theorem dX0_readMark_13 : decode cX0_readMark 13 = .ok (.iload_n 1, 1) := by decide +kernel
theorem dX0_readMark_14 : decode cX0_readMark 14 = .ok (.baload, 1) := by decide +kernel
theorem dX0_readMark_15 : decode cX0_readMark 15 = .ok (.ifCond .eq 23, 3) := by decide +kernel
theorem dX0_readMark_18 : decode cX0_readMark 18 = .ok (.aload_n 0, 1) := by decide +kernel
theorem dX0_readMark_19 : decode cX0_readMark 19 = .ok (.dup, 1) := by decide +kernel
theorem dX0_readMark_20 : decode cX0_readMark 20 = .ok (.getfield 35, 3) := by decide +kernel
theorem dX0_readMark_23 : decode cX0_readMark 23 = .ok (.iconst 1, 1) := by decide +kernel
theorem dX0_readMark_24 : decode cX0_readMark 24 = .ok (.aload_n 0, 1) := by decide +kernel
theorem dX0_readMark_25 : decode cX0_readMark 25 = .ok (.getfield 18, 3) := by decide +kernel
theorem dX0_readMark_28 : decode cX0_readMark 28 = .ok (.iload_n 1, 1) := by decide +kernel
theorem dX0_readMark_29 : decode cX0_readMark 29 = .ok (.iaload, 1) := by decide +kernel
theorem dX0_readMark_30 : decode cX0_readMark 30 = .ok (.ishl, 1) := by decide +kernel
theorem dX0_readMark_31 : decode cX0_readMark 31 = .ok (.ior, 1) := by decide +kernel
theorem dX0_readMark_32 : decode cX0_readMark 32 = .ok (.putfield 35, 3) := by decide +kernel
theorem dX0_readMark_35 : decode cX0_readMark 35 = .ok (.goto 78, 3) := by decide +kernel
theorem dX0_readMark_38 : decode cX0_readMark 38 = .ok (.aload_n 0, 1) := by decide +kernel
theorem dX0_readMark_39 : decode cX0_readMark 39 = .ok (.getfield 11, 3) := by decide +kernel
theorem dX0_readMark_42 : decode cX0_readMark 42 = .ok (.iload_n 1, 1) := by decide +kernel
theorem dX0_readMark_43 : decode cX0_readMark 43 = .ok (.baload, 1) := by decide +kernel
theorem dX0_readMark_44 : decode cX0_readMark 44 = .ok (.ifCond .eq 23, 3) := by decide +kernel
theorem dX0_readMark_47 : decode cX0_readMark 47 = .ok (.aload_n 0, 1) := by decide +kernel
theorem dX0_readMark_48 : decode cX0_readMark 48 = .ok (.dup, 1) := by decide +kernel
theorem dX0_readMark_49 : decode cX0_readMark 49 = .ok (.getfield 38, 3) := by decide +kernel
theorem dX0_readMark_52 : decode cX0_readMark 52 = .ok (.iconst 1, 1) := by decide +kernel
theorem dX0_readMark_53 : decode cX0_readMark 53 = .ok (.aload_n 0, 1) := by decide +kernel
theorem dX0_readMark_54 : decode cX0_readMark 54 = .ok (.getfield 18, 3) := by decide +kernel
theorem dX0_readMark_57 : decode cX0_readMark 57 = .ok (.iload_n 1, 1) := by decide +kernel
theorem dX0_readMark_58 : decode cX0_readMark 58 = .ok (.iaload, 1) := by decide +kernel
theorem dX0_readMark_59 : decode cX0_readMark 59 = .ok (.ishl, 1) := by decide +kernel
theorem dX0_readMark_60 : decode cX0_readMark 60 = .ok (.ior, 1) := by decide +kernel
theorem dX0_readMark_61 : decode cX0_readMark 61 = .ok (.putfield 38, 3) := by decide +kernel
theorem dX0_readMark_64 : decode cX0_readMark 64 = .ok (.goto 49, 3) := by decide +kernel
theorem dX0_readMark_67 : decode cX0_readMark 67 = .ok (.aload_n 0, 1) := by decide +kernel
theorem dX0_readMark_68 : decode cX0_readMark 68 = .ok (.getfield 15, 3) := by decide +kernel
theorem dX0_readMark_71 : decode cX0_readMark 71 = .ok (.iload_n 1, 1) := by decide +kernel
theorem dX0_readMark_72 : decode cX0_readMark 72 = .ok (.baload, 1) := by decide +kernel
theorem dX0_readMark_73 : decode cX0_readMark 73 = .ok (.ifCond .eq 23, 3) := by decide +kernel
theorem dX0_readMark_76 : decode cX0_readMark 76 = .ok (.aload_n 0, 1) := by decide +kernel
theorem dX0_readMark_77 : decode cX0_readMark 77 = .ok (.aload_n 0, 1) := by decide +kernel
theorem dX0_readMark_78 : decode cX0_readMark 78 = .ok (.getfield 41, 3) := by decide +kernel
theorem dX0_readMark_81 : decode cX0_readMark 81 = .ok (.aload_n 0, 1) := by decide +kernel
theorem dX0_readMark_82 : decode cX0_readMark 82 = .ok (.getfield 18, 3) := by decide +kernel
theorem dX0_readMark_85 : decode cX0_readMark 85 = .ok (.iload_n 1, 1) := by decide +kernel
theorem dX0_readMark_86 : decode cX0_readMark 86 = .ok (.iaload, 1) := by decide +kernel
theorem dX0_readMark_87 : decode cX0_readMark 87 = .ok (.invokestatic 80, 3) := by decide +kernel
theorem dX0_readMark_90 : decode cX0_readMark 90 = .ok (.putfield 41, 3) := by decide +kernel
theorem dX0_readMark_93 : decode cX0_readMark 93 = .ok (.goto 20, 3) := by decide +kernel
theorem dX0_readMark_96 : decode cX0_readMark 96 = .ok (.aload_n 0, 1) := by decide +kernel
theorem dX0_readMark_97 : decode cX0_readMark 97 = .ok (.aload_n 0, 1) := by decide +kernel
theorem dX0_readMark_98 : decode cX0_readMark 98 = .ok (.getfield 44, 3) := by decide +kernel
theorem dX0_readMark_101 : decode cX0_readMark 101 = .ok (.aload_n 0, 1) := by decide +kernel
theorem dX0_readMark_102 : decode cX0_readMark 102 = .ok (.getfield 18, 3) := by decide +kernel
theorem dX0_readMark_105 : decode cX0_readMark 105 = .ok (.iload_n 1, 1) := by decide +kernel
theorem dX0_readMark_106 : decode cX0_readMark 106 = .ok (.iaload, 1) := by decide +kernel
theorem dX0_readMark_107 : decode cX0_readMark 107 = .ok (.invokestatic 86, 3) := by decide +kernel
theorem dX0_readMark_110 : decode cX0_readMark 110 = .ok (.putfield 44, 3) := by decide +kernel
theorem dX0_readMark_113 : decode cX0_readMark 113 = .ok (.return_, 1) := by decide +kernel
theorem dX0_lookAtRuns_0 : decode cX0_lookAtRuns 0 = .ok (.iconst 0, 1) := by decide +kernel
theorem dX0_lookAtRuns_1 : decode cX0_lookAtRuns 1 = .ok (.istore_n 3, 1) := by decide +kernel
theorem dX0_lookAtRuns_2 : decode cX0_lookAtRuns 2 = .ok (.iload_n 3, 1) := by decide +kernel
theorem dX0_lookAtRuns_3 : decode cX0_lookAtRuns 3 = .ok (.aload_n 1, 1) := by decide +kernel
theorem dX0_lookAtRuns_4 : decode cX0_lookAtRuns 4 = .ok (.getfield 89, 3) := by decide +kernel
theorem dX0_lookAtRuns_7 : decode cX0_lookAtRuns 7 = .ok (.if_icmp .ge 109, 3) := by decide +kernel
theorem dX0_lookAtRuns_10 : decode cX0_lookAtRuns 10 = .ok (.iconst 1, 1) := by decide +kernel
theorem dX0_lookAtRuns_11 : decode cX0_lookAtRuns 11 = .ok (.iload_n 3, 1) := by decide +kernel
theorem dX0_lookAtRuns_12 : decode cX0_lookAtRuns 12 = .ok (.ishl, 1) := by decide +kernel
theorem dX0_lookAtRuns_13 : decode cX0_lookAtRuns 13 = .ok (.istore 4, 2) := by decide +kernel
theorem dX0_lookAtRuns_15 : decode cX0_lookAtRuns 15 = .ok (.iload_n 3, 1) := by decide +kernel
theorem dX0_lookAtRuns_16 : decode cX0_lookAtRuns 16 = .ok (.iconst 1, 1) := by decide +kernel
theorem dX0_lookAtRuns_17 : decode cX0_lookAtRuns 17 = .ok (.iadd, 1) := by decide +kernel
theorem dX0_lookAtRuns_18 : decode cX0_lookAtRuns 18 = .ok (.istore 5, 2) := by decide +kernel
theorem dX0_lookAtRuns_20 : decode cX0_lookAtRuns 20 = .ok (.iload 5, 2) := by decide +kernel
theorem dX0_lookAtRuns_22 : decode cX0_lookAtRuns 22 = .ok (.aload_n 1, 1) := by decide +kernel
theorem dX0_lookAtRuns_23 : decode cX0_lookAtRuns 23 = .ok (.getfield 89, 3) := by decide +kernel
theorem dX0_lookAtRuns_26 : decode cX0_lookAtRuns 26 = .ok (.if_icmp .gt 84, 3) := by decide +kernel
theorem dX0_lookAtRuns_29 : decode cX0_lookAtRuns 29 = .ok (.iload 5, 2) := by decide +kernel
theorem dX0_lookAtRuns_31 : decode cX0_lookAtRuns 31 = .ok (.iload_n 3, 1) := by decide +kernel
theorem dX0_lookAtRuns_32 : decode cX0_lookAtRuns 32 = .ok (.isub, 1) := by decide +kernel
theorem dX0_lookAtRuns_33 : decode cX0_lookAtRuns 33 = .ok (.aload_n 1, 1) := by decide +kernel
theorem dX0_lookAtRuns_34 : decode cX0_lookAtRuns 34 = .ok (.getfield 92, 3) := by decide +kernel
theorem dX0_lookAtRuns_37 : decode cX0_lookAtRuns 37 = .ok (.iload_n 2, 1) := by decide +kernel
theorem dX0_lookAtRuns_38 : decode cX0_lookAtRuns 38 = .ok (.iaload, 1) := by decide +kernel
theorem dX0_lookAtRuns_39 : decode cX0_lookAtRuns 39 = .ok (.if_icmp .gt 71, 3) := by decide +kernel
theorem dX0_lookAtRuns_42 : decode cX0_lookAtRuns 42 = .ok (.iload 4, 2) := by decide +kernel
theorem dX0_lookAtRuns_44 : decode cX0_lookAtRuns 44 = .ok (.iconst 1, 1) := by decide +kernel
theorem dX0_lookAtRuns_45 : decode cX0_lookAtRuns 45 = .ok (.iload 5, 2) := by decide +kernel
theorem dX0_lookAtRuns_47 : decode cX0_lookAtRuns 47 = .ok (.ishl, 1) := by decide +kernel
theorem dX0_lookAtRuns_48 : decode cX0_lookAtRuns 48 = .ok (.ior, 1) := by decide +kernel
theorem dX0_lookAtRuns_49 : decode cX0_lookAtRuns 49 = .ok (.istore 4, 2) := by decide +kernel
theorem dX0_lookAtRuns_51 : decode cX0_lookAtRuns 51 = .ok (.iload 4, 2) := by decide +kernel
theorem dX0_lookAtRuns_53 : decode cX0_lookAtRuns 53 = .ok (.aload_n 0, 1) := by decide +kernel
theorem dX0_lookAtRuns_54 : decode cX0_lookAtRuns 54 = .ok (.getfield 35, 3) := by decide +kernel
theorem dX0_lookAtRuns_57 : decode cX0_lookAtRuns 57 = .ok (.iand, 1) := by decide +kernel
theorem dX0_lookAtRuns_58 : decode cX0_lookAtRuns 58 = .ok (.aload_n 0, 1) := by decide +kernel
theorem dX0_lookAtRuns_59 : decode cX0_lookAtRuns 59 = .ok (.getfield 35, 3) := by decide +kernel
theorem dX0_lookAtRuns_62 : decode cX0_lookAtRuns 62 = .ok (.if_icmp .ne 42, 3) := by decide +kernel
theorem dX0_lookAtRuns_65 : decode cX0_lookAtRuns 65 = .ok (.iload 4, 2) := by decide +kernel
theorem dX0_lookAtRuns_67 : decode cX0_lookAtRuns 67 = .ok (.aload_n 0, 1) := by decide +kernel
theorem dX0_lookAtRuns_68 : decode cX0_lookAtRuns 68 = .ok (.getfield 38, 3) := by decide +kernel
theorem dX0_lookAtRuns_71 : decode cX0_lookAtRuns 71 = .ok (.iand, 1) := by decide +kernel
theorem dX0_lookAtRuns_72 : decode cX0_lookAtRuns 72 = .ok (.ifCond .ne 32, 3) := by decide +kernel
theorem dX0_lookAtRuns_75 : decode cX0_lookAtRuns 75 = .ok (.aload_n 0, 1) := by decide +kernel
theorem dX0_lookAtRuns_76 : decode cX0_lookAtRuns 76 = .ok (.dup, 1) := by decide +kernel
theorem dX0_lookAtRuns_77 : decode cX0_lookAtRuns 77 = .ok (.getfield 47, 3) := by decide +kernel
theorem dX0_lookAtRuns_80 : decode cX0_lookAtRuns 80 = .ok (.iconst 1, 1) := by decide +kernel
theorem dX0_lookAtRuns_81 : decode cX0_lookAtRuns 81 = .ok (.iadd, 1) := by decide +kernel
theorem dX0_lookAtRuns_82 : decode cX0_lookAtRuns 82 = .ok (.putfield 47, 3) := by decide +kernel
theorem dX0_lookAtRuns_85 : decode cX0_lookAtRuns 85 = .ok (.aload_n 0, 1) := by decide +kernel
theorem dX0_lookAtRuns_86 : decode cX0_lookAtRuns 86 = .ok (.dup, 1) := by decide +kernel
theorem dX0_lookAtRuns_87 : decode cX0_lookAtRuns 87 = .ok (.getfield 50, 3) := by decide +kernel
theorem dX0_lookAtRuns_90 : decode cX0_lookAtRuns 90 = .ok (.iconst 1, 1) := by decide +kernel
theorem dX0_lookAtRuns_91 : decode cX0_lookAtRuns 91 = .ok (.iload_n 2, 1) := by decide +kernel
theorem dX0_lookAtRuns_92 : decode cX0_lookAtRuns 92 = .ok (.ishl, 1) := by decide +kernel
theorem dX0_lookAtRuns_93 : decode cX0_lookAtRuns 93 = .ok (.ior, 1) := by decide +kernel
theorem dX0_lookAtRuns_94 : decode cX0_lookAtRuns 94 = .ok (.putfield 50, 3) := by decide +kernel
theorem dX0_lookAtRuns_97 : decode cX0_lookAtRuns 97 = .ok (.aload_n 0, 1) := by decide +kernel
theorem dX0_lookAtRuns_98 : decode cX0_lookAtRuns 98 = .ok (.iload_n 3, 1) := by decide +kernel
theorem dX0_lookAtRuns_99 : decode cX0_lookAtRuns 99 = .ok (.iload 5, 2) := by decide +kernel
theorem dX0_lookAtRuns_101 : decode cX0_lookAtRuns 101 = .ok (.invokevirtual 95, 3) := by decide +kernel
theorem dX0_lookAtRuns_104 : decode cX0_lookAtRuns 104 = .ok (.iinc 5 1, 3) := by decide +kernel
theorem dX0_lookAtRuns_107 : decode cX0_lookAtRuns 107 = .ok (.goto (-87), 3) := by decide +kernel
theorem dX0_lookAtRuns_110 : decode cX0_lookAtRuns 110 = .ok (.iinc 3 1, 3) := by decide +kernel
theorem dX0_lookAtRuns_113 : decode cX0_lookAtRuns 113 = .ok (.goto (-111), 3) := by decide +kernel
theorem dX0_lookAtRuns_116 : decode cX0_lookAtRuns 116 = .ok (.return_, 1) := by decide +kernel
theorem dX0_noteRun_0 : decode cX0_noteRun 0 = .ok (.iload_n 1, 1) := by decide +kernel
theorem dX0_noteRun_1 : decode cX0_noteRun 1 = .ok (.istore_n 3, 1) := by decide +kernel
theorem dX0_noteRun_2 : decode cX0_noteRun 2 = .ok (.iload_n 3, 1) := by decide +kernel
theorem dX0_noteRun_3 : decode cX0_noteRun 3 = .ok (.iload_n 2, 1) := by decide +kernel
theorem dX0_noteRun_4 : decode cX0_noteRun 4 = .ok (.if_icmp .gt 25, 3) := by decide +kernel
theorem dX0_noteRun_7 : decode cX0_noteRun 7 = .ok (.iload_n 3, 1) := by decide +kernel
theorem dX0_noteRun_8 : decode cX0_noteRun 8 = .ok (.bipush 20, 2) := by decide +kernel
theorem dX0_noteRun_10 : decode cX0_noteRun 10 = .ok (.if_icmp .gt 19, 3) := by decide +kernel
theorem dX0_noteRun_13 : decode cX0_noteRun 13 = .ok (.aload_n 0, 1) := by decide +kernel
theorem dX0_noteRun_14 : decode cX0_noteRun 14 = .ok (.getfield 53, 3) := by decide +kernel
theorem dX0_noteRun_17 : decode cX0_noteRun 17 = .ok (.iload_n 3, 1) := by decide +kernel
theorem dX0_noteRun_18 : decode cX0_noteRun 18 = .ok (.dup2, 1) := by decide +kernel
theorem dX0_noteRun_19 : decode cX0_noteRun 19 = .ok (.iaload, 1) := by decide +kernel
theorem dX0_noteRun_20 : decode cX0_noteRun 20 = .ok (.iconst 1, 1) := by decide +kernel
theorem dX0_noteRun_21 : decode cX0_noteRun 21 = .ok (.iadd, 1) := by decide +kernel
theorem dX0_noteRun_22 : decode cX0_noteRun 22 = .ok (.iastore, 1) := by decide +kernel
theorem dX0_noteRun_23 : decode cX0_noteRun 23 = .ok (.iinc 3 1, 3) := by decide +kernel
theorem dX0_noteRun_26 : decode cX0_noteRun 26 = .ok (.goto (-24), 3) := by decide +kernel
theorem dX0_noteRun_29 : decode cX0_noteRun 29 = .ok (.return_, 1) := by decide +kernel
theorem dX0_leftAtMost_0 : decode cX0_leftAtMost 0 = .ok (.iload_n 1, 1) := by decide +kernel
theorem dX0_leftAtMost_1 : decode cX0_leftAtMost 1 = .ok (.ifCond .lt 9, 3) := by decide +kernel
theorem dX0_leftAtMost_4 : decode cX0_leftAtMost 4 = .ok (.iload_n 1, 1) := by decide +kernel
theorem dX0_leftAtMost_5 : decode cX0_leftAtMost 5 = .ok (.bipush 20, 2) := by decide +kernel
theorem dX0_leftAtMost_7 : decode cX0_leftAtMost 7 = .ok (.if_icmp .le 8, 3) := by decide +kernel
theorem dX0_leftAtMost_10 : decode cX0_leftAtMost 10 = .ok (.aload_n 0, 1) := by decide +kernel
theorem dX0_leftAtMost_11 : decode cX0_leftAtMost 11 = .ok (.getfield 47, 3) := by decide +kernel
theorem dX0_leftAtMost_14 : decode cX0_leftAtMost 14 = .ok (.ireturn, 1) := by decide +kernel
theorem dX0_leftAtMost_15 : decode cX0_leftAtMost 15 = .ok (.aload_n 0, 1) := by decide +kernel
theorem dX0_leftAtMost_16 : decode cX0_leftAtMost 16 = .ok (.getfield 53, 3) := by decide +kernel
theorem dX0_leftAtMost_19 : decode cX0_leftAtMost 19 = .ok (.iload_n 1, 1) := by decide +kernel
theorem dX0_leftAtMost_20 : decode cX0_leftAtMost 20 = .ok (.iaload, 1) := by decide +kernel
theorem dX0_leftAtMost_21 : decode cX0_leftAtMost 21 = .ok (.aload_n 0, 1) := by decide +kernel
theorem dX0_leftAtMost_22 : decode cX0_leftAtMost 22 = .ok (.getfield 47, 3) := by decide +kernel
theorem dX0_leftAtMost_25 : decode cX0_leftAtMost 25 = .ok (.aload_n 0, 1) := by decide +kernel
theorem dX0_leftAtMost_26 : decode cX0_leftAtMost 26 = .ok (.getfield 53, 3) := by decide +kernel
theorem dX0_leftAtMost_29 : decode cX0_leftAtMost 29 = .ok (.iload_n 1, 1) := by decide +kernel
theorem dX0_leftAtMost_30 : decode cX0_leftAtMost 30 = .ok (.iaload, 1) := by decide +kernel
theorem dX0_leftAtMost_31 : decode cX0_leftAtMost 31 = .ok (.isub, 1) := by decide +kernel
theorem dX0_leftAtMost_32 : decode cX0_leftAtMost 32 = .ok (.invokestatic 80, 3) := by decide +kernel
theorem dX0_leftAtMost_35 : decode cX0_leftAtMost 35 = .ok (.ireturn, 1) := by decide +kernel
theorem dX1_init_0 : decode cX1_init 0 = .ok (.aload_n 0, 1) := by decide +kernel
theorem dX1_init_1 : decode cX1_init 1 = .ok (.invokespecial 1, 3) := by decide +kernel
theorem dX1_init_4 : decode cX1_init 4 = .ok (.aload_n 0, 1) := by decide +kernel
theorem dX1_init_5 : decode cX1_init 5 = .ok (.sipush 300, 3) := by decide +kernel
theorem dX1_init_8 : decode cX1_init 8 = .ok (.newarray .int, 2) := by decide +kernel
theorem dX1_init_10 : decode cX1_init 10 = .ok (.putfield 9, 3) := by decide +kernel
theorem dX1_init_13 : decode cX1_init 13 = .ok (.aload_n 0, 1) := by decide +kernel
theorem dX1_init_14 : decode cX1_init 14 = .ok (.sipush 300, 3) := by decide +kernel
theorem dX1_init_17 : decode cX1_init 17 = .ok (.newarray .int, 2) := by decide +kernel
theorem dX1_init_19 : decode cX1_init 19 = .ok (.putfield 13, 3) := by decide +kernel
theorem dX1_init_22 : decode cX1_init 22 = .ok (.aload_n 0, 1) := by decide +kernel
theorem dX1_init_23 : decode cX1_init 23 = .ok (.iconst 0, 1) := by decide +kernel
theorem dX1_init_24 : decode cX1_init 24 = .ok (.putfield 16, 3) := by decide +kernel
theorem dX1_init_27 : decode cX1_init 27 = .ok (.aload_n 0, 1) := by decide +kernel
theorem dX1_init_28 : decode cX1_init 28 = .ok (.bipush 32, 2) := by decide +kernel
theorem dX1_init_30 : decode cX1_init 30 = .ok (.newarray .int, 2) := by decide +kernel
theorem dX1_init_32 : decode cX1_init 32 = .ok (.putfield 20, 3) := by decide +kernel
theorem dX1_init_35 : decode cX1_init 35 = .ok (.aload_n 0, 1) := by decide +kernel
theorem dX1_init_36 : decode cX1_init 36 = .ok (.iconst 0, 1) := by decide +kernel
theorem dX1_init_37 : decode cX1_init 37 = .ok (.putfield 23, 3) := by decide +kernel
theorem dX1_init_40 : decode cX1_init 40 = .ok (.return_, 1) := by decide +kernel
theorem dX1_clear_0 : decode cX1_clear 0 = .ok (.aload_n 0, 1) := by decide +kernel
theorem dX1_clear_1 : decode cX1_clear 1 = .ok (.iconst 0, 1) := by decide +kernel
theorem dX1_clear_2 : decode cX1_clear 2 = .ok (.putfield 16, 3) := by decide +kernel
theorem dX1_clear_5 : decode cX1_clear 5 = .ok (.return_, 1) := by decide +kernel
theorem dX1_addNumber_0 : decode cX1_addNumber 0 = .ok (.aload_n 0, 1) := by decide +kernel
theorem dX1_addNumber_1 : decode cX1_addNumber 1 = .ok (.iconst 0, 1) := by decide +kernel
theorem dX1_addNumber_2 : decode cX1_addNumber 2 = .ok (.iload_n 1, 1) := by decide +kernel
theorem dX1_addNumber_3 : decode cX1_addNumber 3 = .ok (.invokevirtual 26, 3) := by decide +kernel
theorem dX1_addNumber_6 : decode cX1_addNumber 6 = .ok (.return_, 1) := by decide +kernel
theorem dX1_add_0 : decode cX1_add 0 = .ok (.aload_n 0, 1) := by decide +kernel
theorem dX1_add_1 : decode cX1_add 1 = .ok (.iload_n 1, 1) := by decide +kernel
theorem dX1_add_2 : decode cX1_add 2 = .ok (.iconst 0, 1) := by decide +kernel
theorem dX1_add_3 : decode cX1_add 3 = .ok (.invokevirtual 26, 3) := by decide +kernel
theorem dX1_add_6 : decode cX1_add 6 = .ok (.return_, 1) := by decide +kernel
theorem dX1_addStep_0 : decode cX1_addStep 0 = .ok (.aload_n 0, 1) := by decide +kernel
theorem dX1_addStep_1 : decode cX1_addStep 1 = .ok (.getfield 16, 3) := by decide +kernel
theorem dX1_addStep_4 : decode cX1_addStep 4 = .ok (.ifCond .lt 43, 3) := by decide +kernel
theorem dX1_addStep_7 : decode cX1_addStep 7 = .ok (.aload_n 0, 1) := by decide +kernel
theorem dX1_addStep_8 : decode cX1_addStep 8 = .ok (.getfield 16, 3) := by decide +kernel
theorem dX1_addStep_11 : decode cX1_addStep 11 = .ok (.sipush 300, 3) := by decide +kernel
theorem dX1_addStep_14 : decode cX1_addStep 14 = .ok (.if_icmp .ge 33, 3) := by decide +kernel
theorem dX1_addStep_17 : decode cX1_addStep 17 = .ok (.aload_n 0, 1) := by decide +kernel
theorem dX1_addStep_18 : decode cX1_addStep 18 = .ok (.getfield 9, 3) := by decide +kernel
theorem dX1_addStep_21 : decode cX1_addStep 21 = .ok (.aload_n 0, 1) := by decide +kernel
theorem dX1_addStep_22 : decode cX1_addStep 22 = .ok (.getfield 16, 3) := by decide +kernel
theorem dX1_addStep_25 : decode cX1_addStep 25 = .ok (.iload_n 1, 1) := by decide +kernel
theorem dX1_addStep_26 : decode cX1_addStep 26 = .ok (.iastore, 1) := by decide +kernel
theorem dX1_addStep_27 : decode cX1_addStep 27 = .ok (.aload_n 0, 1) := by decide +kernel
theorem dX1_addStep_28 : decode cX1_addStep 28 = .ok (.getfield 13, 3) := by decide +kernel
theorem dX1_addStep_31 : decode cX1_addStep 31 = .ok (.aload_n 0, 1) := by decide +kernel
theorem dX1_addStep_32 : decode cX1_addStep 32 = .ok (.getfield 16, 3) := by decide +kernel
theorem dX1_addStep_35 : decode cX1_addStep 35 = .ok (.iload_n 2, 1) := by decide +kernel
theorem dX1_addStep_36 : decode cX1_addStep 36 = .ok (.iastore, 1) := by decide +kernel
theorem dX1_addStep_37 : decode cX1_addStep 37 = .ok (.aload_n 0, 1) := by decide +kernel
theorem dX1_addStep_38 : decode cX1_addStep 38 = .ok (.dup, 1) := by decide +kernel
theorem dX1_addStep_39 : decode cX1_addStep 39 = .ok (.getfield 16, 3) := by decide +kernel
theorem dX1_addStep_42 : decode cX1_addStep 42 = .ok (.iconst 1, 1) := by decide +kernel
theorem dX1_addStep_43 : decode cX1_addStep 43 = .ok (.iadd, 1) := by decide +kernel
theorem dX1_addStep_44 : decode cX1_addStep 44 = .ok (.putfield 16, 3) := by decide +kernel
theorem dX1_addStep_47 : decode cX1_addStep 47 = .ok (.return_, 1) := by decide +kernel
theorem dX1_valueOf_0 : decode cX1_valueOf 0 = .ok (.aload_n 0, 1) := by decide +kernel
theorem dX1_valueOf_1 : decode cX1_valueOf 1 = .ok (.iconst 0, 1) := by decide +kernel
theorem dX1_valueOf_2 : decode cX1_valueOf 2 = .ok (.putfield 23, 3) := by decide +kernel
theorem dX1_valueOf_5 : decode cX1_valueOf 5 = .ok (.iconst 0, 1) := by decide +kernel
theorem dX1_valueOf_6 : decode cX1_valueOf 6 = .ok (.istore 7, 2) := by decide +kernel
theorem dX1_valueOf_8 : decode cX1_valueOf 8 = .ok (.iload 7, 2) := by decide +kernel
theorem dX1_valueOf_10 : decode cX1_valueOf 10 = .ok (.aload_n 0, 1) := by decide +kernel
theorem dX1_valueOf_11 : decode cX1_valueOf 11 = .ok (.getfield 16, 3) := by decide +kernel
theorem dX1_valueOf_14 : decode cX1_valueOf 14 = .ok (.if_icmp .ge 186, 3) := by decide +kernel
theorem dX1_valueOf_17 : decode cX1_valueOf 17 = .ok (.iload 7, 2) := by decide +kernel
theorem dX1_valueOf_19 : decode cX1_valueOf 19 = .ok (.sipush 300, 3) := by decide +kernel
theorem dX1_valueOf_22 : decode cX1_valueOf 22 = .ok (.if_icmp .ge 178, 3) := by decide +kernel
theorem dX1_valueOf_25 : decode cX1_valueOf 25 = .ok (.aload_n 0, 1) := by decide +kernel
theorem dX1_valueOf_26 : decode cX1_valueOf 26 = .ok (.getfield 9, 3) := by decide +kernel
theorem dX1_valueOf_29 : decode cX1_valueOf 29 = .ok (.iload 7, 2) := by decide +kernel
theorem dX1_valueOf_31 : decode cX1_valueOf 31 = .ok (.iaload, 1) := by decide +kernel
theorem dX1_valueOf_32 : decode cX1_valueOf 32 = .ok (.tableswitch 132 0 7 #[48, 62, 70, 78, 86, 95, 104, 113], 48) := by decide +kernel
theorem dX1_valueOf_80 : decode cX1_valueOf 80 = .ok (.aload_n 0, 1) := by decide +kernel
theorem dX1_valueOf_81 : decode cX1_valueOf 81 = .ok (.aload_n 0, 1) := by decide +kernel
theorem dX1_valueOf_82 : decode cX1_valueOf 82 = .ok (.getfield 13, 3) := by decide +kernel
theorem dX1_valueOf_85 : decode cX1_valueOf 85 = .ok (.iload 7, 2) := by decide +kernel
theorem dX1_valueOf_87 : decode cX1_valueOf 87 = .ok (.iaload, 1) := by decide +kernel
theorem dX1_valueOf_88 : decode cX1_valueOf 88 = .ok (.invokevirtual 30, 3) := by decide +kernel
theorem dX1_valueOf_91 : decode cX1_valueOf 91 = .ok (.goto 103, 3) := by decide +kernel
theorem dX1_valueOf_94 : decode cX1_valueOf 94 = .ok (.aload_n 0, 1) := by decide +kernel
theorem dX1_valueOf_95 : decode cX1_valueOf 95 = .ok (.iload_n 1, 1) := by decide +kernel
theorem dX1_valueOf_96 : decode cX1_valueOf 96 = .ok (.invokevirtual 30, 3) := by decide +kernel
theorem dX1_valueOf_99 : decode cX1_valueOf 99 = .ok (.goto 95, 3) := by decide +kernel
theorem dX1_valueOf_102 : decode cX1_valueOf 102 = .ok (.aload_n 0, 1) := by decide +kernel
theorem dX1_valueOf_103 : decode cX1_valueOf 103 = .ok (.iload_n 2, 1) := by decide +kernel
theorem dX1_valueOf_104 : decode cX1_valueOf 104 = .ok (.invokevirtual 30, 3) := by decide +kernel
theorem dX1_valueOf_107 : decode cX1_valueOf 107 = .ok (.goto 87, 3) := by decide +kernel
theorem dX1_valueOf_110 : decode cX1_valueOf 110 = .ok (.aload_n 0, 1) := by decide +kernel
theorem dX1_valueOf_111 : decode cX1_valueOf 111 = .ok (.iload_n 3, 1) := by decide +kernel
theorem dX1_valueOf_112 : decode cX1_valueOf 112 = .ok (.invokevirtual 30, 3) := by decide +kernel
theorem dX1_valueOf_115 : decode cX1_valueOf 115 = .ok (.goto 79, 3) := by decide +kernel
theorem dX1_valueOf_118 : decode cX1_valueOf 118 = .ok (.aload_n 0, 1) := by decide +kernel
theorem dX1_valueOf_119 : decode cX1_valueOf 119 = .ok (.iload 4, 2) := by decide +kernel
theorem dX1_valueOf_121 : decode cX1_valueOf 121 = .ok (.invokevirtual 30, 3) := by decide +kernel
theorem dX1_valueOf_124 : decode cX1_valueOf 124 = .ok (.goto 70, 3) := by decide +kernel
theorem dX1_valueOf_127 : decode cX1_valueOf 127 = .ok (.aload_n 0, 1) := by decide +kernel
theorem dX1_valueOf_128 : decode cX1_valueOf 128 = .ok (.iload 5, 2) := by decide +kernel
theorem dX1_valueOf_130 : decode cX1_valueOf 130 = .ok (.invokevirtual 30, 3) := by decide +kernel
theorem dX1_valueOf_133 : decode cX1_valueOf 133 = .ok (.goto 61, 3) := by decide +kernel
theorem dX1_valueOf_136 : decode cX1_valueOf 136 = .ok (.aload_n 0, 1) := by decide +kernel
theorem dX1_valueOf_137 : decode cX1_valueOf 137 = .ok (.iload 6, 2) := by decide +kernel
theorem dX1_valueOf_139 : decode cX1_valueOf 139 = .ok (.invokevirtual 30, 3) := by decide +kernel
theorem dX1_valueOf_142 : decode cX1_valueOf 142 = .ok (.goto 52, 3) := by decide +kernel
theorem dX1_valueOf_145 : decode cX1_valueOf 145 = .ok (.aload_n 0, 1) := by decide +kernel
theorem dX1_valueOf_146 : decode cX1_valueOf 146 = .ok (.aload_n 0, 1) := by decide +kernel
theorem dX1_valueOf_147 : decode cX1_valueOf 147 = .ok (.invokevirtual 34, 3) := by decide +kernel
theorem dX1_valueOf_150 : decode cX1_valueOf 150 = .ok (.ifCond .ne 7, 3) := by decide +kernel
theorem dX1_valueOf_153 : decode cX1_valueOf 153 = .ok (.iconst 1, 1) := by decide +kernel
theorem dX1_valueOf_154 : decode cX1_valueOf 154 = .ok (.goto 4, 3) := by decide +kernel
theorem dX1_valueOf_157 : decode cX1_valueOf 157 = .ok (.iconst 0, 1) := by decide +kernel
theorem dX1_valueOf_158 : decode cX1_valueOf 158 = .ok (.invokevirtual 30, 3) := by decide +kernel
theorem dX1_valueOf_161 : decode cX1_valueOf 161 = .ok (.goto 33, 3) := by decide +kernel
theorem dX1_valueOf_164 : decode cX1_valueOf 164 = .ok (.aload_n 0, 1) := by decide +kernel
theorem dX1_valueOf_165 : decode cX1_valueOf 165 = .ok (.invokevirtual 34, 3) := by decide +kernel
theorem dX1_valueOf_168 : decode cX1_valueOf 168 = .ok (.istore 8, 2) := by decide +kernel
theorem dX1_valueOf_170 : decode cX1_valueOf 170 = .ok (.aload_n 0, 1) := by decide +kernel
theorem dX1_valueOf_171 : decode cX1_valueOf 171 = .ok (.invokevirtual 34, 3) := by decide +kernel
theorem dX1_valueOf_174 : decode cX1_valueOf 174 = .ok (.istore 9, 2) := by decide +kernel
theorem dX1_valueOf_176 : decode cX1_valueOf 176 = .ok (.aload_n 0, 1) := by decide +kernel
theorem dX1_valueOf_177 : decode cX1_valueOf 177 = .ok (.aload_n 0, 1) := by decide +kernel
theorem dX1_valueOf_178 : decode cX1_valueOf 178 = .ok (.getfield 9, 3) := by decide +kernel
theorem dX1_valueOf_181 : decode cX1_valueOf 181 = .ok (.iload 7, 2) := by decide +kernel
theorem dX1_valueOf_183 : decode cX1_valueOf 183 = .ok (.iaload, 1) := by decide +kernel
theorem dX1_valueOf_184 : decode cX1_valueOf 184 = .ok (.iload 9, 2) := by decide +kernel
theorem dX1_valueOf_186 : decode cX1_valueOf 186 = .ok (.iload 8, 2) := by decide +kernel
theorem dX1_valueOf_188 : decode cX1_valueOf 188 = .ok (.invokestatic 38, 3) := by decide +kernel
theorem dX1_valueOf_191 : decode cX1_valueOf 191 = .ok (.invokevirtual 30, 3) := by decide +kernel
theorem dX1_valueOf_194 : decode cX1_valueOf 194 = .ok (.iinc 7 1, 3) := by decide +kernel
theorem dX1_valueOf_197 : decode cX1_valueOf 197 = .ok (.goto (-189), 3) := by decide +kernel
theorem dX1_valueOf_200 : decode cX1_valueOf 200 = .ok (.aload_n 0, 1) := by decide +kernel
theorem dX1_valueOf_201 : decode cX1_valueOf 201 = .ok (.invokevirtual 34, 3) := by decide +kernel
theorem dX1_valueOf_204 : decode cX1_valueOf 204 = .ok (.ireturn, 1) := by decide +kernel
theorem dX1_push_0 : decode cX1_push 0 = .ok (.aload_n 0, 1) := by decide +kernel
theorem dX1_push_1 : decode cX1_push 1 = .ok (.getfield 23, 3) := by decide +kernel
theorem dX1_push_4 : decode cX1_push 4 = .ok (.ifCond .lt 35, 3) := by decide +kernel
theorem dX1_push_7 : decode cX1_push 7 = .ok (.aload_n 0, 1) := by decide +kernel
theorem dX1_push_8 : decode cX1_push 8 = .ok (.getfield 23, 3) := by decide +kernel
theorem dX1_push_11 : decode cX1_push 11 = .ok (.aload_n 0, 1) := by decide +kernel
theorem dX1_push_12 : decode cX1_push 12 = .ok (.getfield 20, 3) := by decide +kernel
theorem dX1_push_15 : decode cX1_push 15 = .ok (.arraylength, 1) := by decide +kernel
theorem dX1_push_16 : decode cX1_push 16 = .ok (.if_icmp .ge 23, 3) := by decide +kernel
theorem dX1_push_19 : decode cX1_push 19 = .ok (.aload_n 0, 1) := by decide +kernel
theorem dX1_push_20 : decode cX1_push 20 = .ok (.getfield 20, 3) := by decide +kernel
theorem dX1_push_23 : decode cX1_push 23 = .ok (.aload_n 0, 1) := by decide +kernel
theorem dX1_push_24 : decode cX1_push 24 = .ok (.getfield 23, 3) := by decide +kernel
theorem dX1_push_27 : decode cX1_push 27 = .ok (.iload_n 1, 1) := by decide +kernel
theorem dX1_push_28 : decode cX1_push 28 = .ok (.iastore, 1) := by decide +kernel
theorem dX1_push_29 : decode cX1_push 29 = .ok (.aload_n 0, 1) := by decide +kernel
theorem dX1_push_30 : decode cX1_push 30 = .ok (.dup, 1) := by decide +kernel
theorem dX1_push_31 : decode cX1_push 31 = .ok (.getfield 23, 3) := by decide +kernel
theorem dX1_push_34 : decode cX1_push 34 = .ok (.iconst 1, 1) := by decide +kernel
theorem dX1_push_35 : decode cX1_push 35 = .ok (.iadd, 1) := by decide +kernel
theorem dX1_push_36 : decode cX1_push 36 = .ok (.putfield 23, 3) := by decide +kernel
theorem dX1_push_39 : decode cX1_push 39 = .ok (.return_, 1) := by decide +kernel
theorem dX1_pop_0 : decode cX1_pop 0 = .ok (.aload_n 0, 1) := by decide +kernel
theorem dX1_pop_1 : decode cX1_pop 1 = .ok (.getfield 23, 3) := by decide +kernel
theorem dX1_pop_4 : decode cX1_pop 4 = .ok (.iconst 1, 1) := by decide +kernel
theorem dX1_pop_5 : decode cX1_pop 5 = .ok (.if_icmp .lt 15, 3) := by decide +kernel
theorem dX1_pop_8 : decode cX1_pop 8 = .ok (.aload_n 0, 1) := by decide +kernel
theorem dX1_pop_9 : decode cX1_pop 9 = .ok (.getfield 23, 3) := by decide +kernel
theorem dX1_pop_12 : decode cX1_pop 12 = .ok (.aload_n 0, 1) := by decide +kernel
theorem dX1_pop_13 : decode cX1_pop 13 = .ok (.getfield 20, 3) := by decide +kernel
theorem dX1_pop_16 : decode cX1_pop 16 = .ok (.arraylength, 1) := by decide +kernel
theorem dX1_pop_17 : decode cX1_pop 17 = .ok (.if_icmp .le 5, 3) := by decide +kernel
theorem dX1_pop_20 : decode cX1_pop 20 = .ok (.iconst 0, 1) := by decide +kernel
theorem dX1_pop_21 : decode cX1_pop 21 = .ok (.ireturn, 1) := by decide +kernel
theorem dX1_pop_22 : decode cX1_pop 22 = .ok (.aload_n 0, 1) := by decide +kernel
theorem dX1_pop_23 : decode cX1_pop 23 = .ok (.dup, 1) := by decide +kernel
theorem dX1_pop_24 : decode cX1_pop 24 = .ok (.getfield 23, 3) := by decide +kernel
theorem dX1_pop_27 : decode cX1_pop 27 = .ok (.iconst 1, 1) := by decide +kernel
theorem dX1_pop_28 : decode cX1_pop 28 = .ok (.isub, 1) := by decide +kernel
theorem dX1_pop_29 : decode cX1_pop 29 = .ok (.putfield 23, 3) := by decide +kernel
theorem dX1_pop_32 : decode cX1_pop 32 = .ok (.aload_n 0, 1) := by decide +kernel
theorem dX1_pop_33 : decode cX1_pop 33 = .ok (.getfield 20, 3) := by decide +kernel
theorem dX1_pop_36 : decode cX1_pop 36 = .ok (.aload_n 0, 1) := by decide +kernel
theorem dX1_pop_37 : decode cX1_pop 37 = .ok (.getfield 23, 3) := by decide +kernel
theorem dX1_pop_40 : decode cX1_pop 40 = .ok (.iaload, 1) := by decide +kernel
theorem dX1_pop_41 : decode cX1_pop 41 = .ok (.ireturn, 1) := by decide +kernel
theorem dX1_joined_0 : decode cX1_joined 0 = .ok (.iload_n 0, 1) := by decide +kernel
theorem dX1_joined_1 : decode cX1_joined 1 = .ok (.lookupswitch 188 #[(37, 115), (38, 160), (42, 99), (43, 91), (45, 95), (47, 103), (60, 127), (61, 149), (62, 138), (124, 174)], 91) := by decide +kernel
theorem dX1_joined_92 : decode cX1_joined 92 = .ok (.iload_n 1, 1) := by decide +kernel
theorem dX1_joined_93 : decode cX1_joined 93 = .ok (.iload_n 2, 1) := by decide +kernel
theorem dX1_joined_94 : decode cX1_joined 94 = .ok (.iadd, 1) := by decide +kernel
theorem dX1_joined_95 : decode cX1_joined 95 = .ok (.ireturn, 1) := by decide +kernel
theorem dX1_joined_96 : decode cX1_joined 96 = .ok (.iload_n 1, 1) := by decide +kernel
theorem dX1_joined_97 : decode cX1_joined 97 = .ok (.iload_n 2, 1) := by decide +kernel
theorem dX1_joined_98 : decode cX1_joined 98 = .ok (.isub, 1) := by decide +kernel
theorem dX1_joined_99 : decode cX1_joined 99 = .ok (.ireturn, 1) := by decide +kernel
theorem dX1_joined_100 : decode cX1_joined 100 = .ok (.iload_n 1, 1) := by decide +kernel
theorem dX1_joined_101 : decode cX1_joined 101 = .ok (.iload_n 2, 1) := by decide +kernel
theorem dX1_joined_102 : decode cX1_joined 102 = .ok (.imul, 1) := by decide +kernel
theorem dX1_joined_103 : decode cX1_joined 103 = .ok (.ireturn, 1) := by decide +kernel
theorem dX1_joined_104 : decode cX1_joined 104 = .ok (.iload_n 2, 1) := by decide +kernel
theorem dX1_joined_105 : decode cX1_joined 105 = .ok (.ifCond .ne 7, 3) := by decide +kernel
theorem dX1_joined_108 : decode cX1_joined 108 = .ok (.iconst 0, 1) := by decide +kernel
theorem dX1_joined_109 : decode cX1_joined 109 = .ok (.goto 6, 3) := by decide +kernel
theorem dX1_joined_112 : decode cX1_joined 112 = .ok (.iload_n 1, 1) := by decide +kernel
theorem dX1_joined_113 : decode cX1_joined 113 = .ok (.iload_n 2, 1) := by decide +kernel
theorem dX1_joined_114 : decode cX1_joined 114 = .ok (.idiv, 1) := by decide +kernel
theorem dX1_joined_115 : decode cX1_joined 115 = .ok (.ireturn, 1) := by decide +kernel
theorem dX1_joined_116 : decode cX1_joined 116 = .ok (.iload_n 2, 1) := by decide +kernel
theorem dX1_joined_117 : decode cX1_joined 117 = .ok (.ifCond .ne 7, 3) := by decide +kernel
theorem dX1_joined_120 : decode cX1_joined 120 = .ok (.iconst 0, 1) := by decide +kernel
theorem dX1_joined_121 : decode cX1_joined 121 = .ok (.goto 6, 3) := by decide +kernel
theorem dX1_joined_124 : decode cX1_joined 124 = .ok (.iload_n 1, 1) := by decide +kernel
theorem dX1_joined_125 : decode cX1_joined 125 = .ok (.iload_n 2, 1) := by decide +kernel
theorem dX1_joined_126 : decode cX1_joined 126 = .ok (.irem, 1) := by decide +kernel
theorem dX1_joined_127 : decode cX1_joined 127 = .ok (.ireturn, 1) := by decide +kernel
theorem dX1_joined_128 : decode cX1_joined 128 = .ok (.iload_n 1, 1) := by decide +kernel
theorem dX1_joined_129 : decode cX1_joined 129 = .ok (.iload_n 2, 1) := by decide +kernel
theorem dX1_joined_130 : decode cX1_joined 130 = .ok (.if_icmp .ge 7, 3) := by decide +kernel
theorem dX1_joined_133 : decode cX1_joined 133 = .ok (.iconst 1, 1) := by decide +kernel
theorem dX1_joined_134 : decode cX1_joined 134 = .ok (.goto 4, 3) := by decide +kernel
theorem dX1_joined_137 : decode cX1_joined 137 = .ok (.iconst 0, 1) := by decide +kernel
theorem dX1_joined_138 : decode cX1_joined 138 = .ok (.ireturn, 1) := by decide +kernel
theorem dX1_joined_139 : decode cX1_joined 139 = .ok (.iload_n 1, 1) := by decide +kernel
theorem dX1_joined_140 : decode cX1_joined 140 = .ok (.iload_n 2, 1) := by decide +kernel
theorem dX1_joined_141 : decode cX1_joined 141 = .ok (.if_icmp .le 7, 3) := by decide +kernel
theorem dX1_joined_144 : decode cX1_joined 144 = .ok (.iconst 1, 1) := by decide +kernel
theorem dX1_joined_145 : decode cX1_joined 145 = .ok (.goto 4, 3) := by decide +kernel
theorem dX1_joined_148 : decode cX1_joined 148 = .ok (.iconst 0, 1) := by decide +kernel
theorem dX1_joined_149 : decode cX1_joined 149 = .ok (.ireturn, 1) := by decide +kernel
theorem dX1_joined_150 : decode cX1_joined 150 = .ok (.iload_n 1, 1) := by decide +kernel
theorem dX1_joined_151 : decode cX1_joined 151 = .ok (.iload_n 2, 1) := by decide +kernel
theorem dX1_joined_152 : decode cX1_joined 152 = .ok (.if_icmp .ne 7, 3) := by decide +kernel
theorem dX1_joined_155 : decode cX1_joined 155 = .ok (.iconst 1, 1) := by decide +kernel
theorem dX1_joined_156 : decode cX1_joined 156 = .ok (.goto 4, 3) := by decide +kernel
theorem dX1_joined_159 : decode cX1_joined 159 = .ok (.iconst 0, 1) := by decide +kernel
theorem dX1_joined_160 : decode cX1_joined 160 = .ok (.ireturn, 1) := by decide +kernel
theorem dX1_joined_161 : decode cX1_joined 161 = .ok (.iload_n 1, 1) := by decide +kernel
theorem dX1_joined_162 : decode cX1_joined 162 = .ok (.ifCond .eq 11, 3) := by decide +kernel
theorem dX1_joined_165 : decode cX1_joined 165 = .ok (.iload_n 2, 1) := by decide +kernel
theorem dX1_joined_166 : decode cX1_joined 166 = .ok (.ifCond .eq 7, 3) := by decide +kernel
theorem dX1_joined_169 : decode cX1_joined 169 = .ok (.iconst 1, 1) := by decide +kernel
theorem dX1_joined_170 : decode cX1_joined 170 = .ok (.goto 4, 3) := by decide +kernel
theorem dX1_joined_173 : decode cX1_joined 173 = .ok (.iconst 0, 1) := by decide +kernel
theorem dX1_joined_174 : decode cX1_joined 174 = .ok (.ireturn, 1) := by decide +kernel
theorem dX1_joined_175 : decode cX1_joined 175 = .ok (.iload_n 1, 1) := by decide +kernel
theorem dX1_joined_176 : decode cX1_joined 176 = .ok (.ifCond .ne 7, 3) := by decide +kernel
theorem dX1_joined_179 : decode cX1_joined 179 = .ok (.iload_n 2, 1) := by decide +kernel
theorem dX1_joined_180 : decode cX1_joined 180 = .ok (.ifCond .eq 7, 3) := by decide +kernel
theorem dX1_joined_183 : decode cX1_joined 183 = .ok (.iconst 1, 1) := by decide +kernel
theorem dX1_joined_184 : decode cX1_joined 184 = .ok (.goto 4, 3) := by decide +kernel
theorem dX1_joined_187 : decode cX1_joined 187 = .ok (.iconst 0, 1) := by decide +kernel
theorem dX1_joined_188 : decode cX1_joined 188 = .ok (.ireturn, 1) := by decide +kernel
theorem dX1_joined_189 : decode cX1_joined 189 = .ok (.iconst 0, 1) := by decide +kernel
theorem dX1_joined_190 : decode cX1_joined 190 = .ok (.ireturn, 1) := by decide +kernel
theorem dX2_init_0 : decode cX2_init 0 = .ok (.aload_n 0, 1) := by decide +kernel
theorem dX2_init_1 : decode cX2_init 1 = .ok (.invokespecial 3, 3) := by decide +kernel
theorem dX2_init_4 : decode cX2_init 4 = .ok (.aload_n 0, 1) := by decide +kernel
theorem dX2_init_5 : decode cX2_init 5 = .ok (.bipush 9, 2) := by decide +kernel
theorem dX2_init_7 : decode cX2_init 7 = .ok (.putfield 9, 3) := by decide +kernel
theorem dX2_init_10 : decode cX2_init 10 = .ok (.aload_n 0, 1) := by decide +kernel
theorem dX2_init_11 : decode cX2_init 11 = .ok (.iconst 0, 1) := by decide +kernel
theorem dX2_init_12 : decode cX2_init 12 = .ok (.putfield 15, 3) := by decide +kernel
theorem dX2_init_15 : decode cX2_init 15 = .ok (.aload_n 0, 1) := by decide +kernel
theorem dX2_init_16 : decode cX2_init 16 = .ok (.iconst 0, 1) := by decide +kernel
theorem dX2_init_17 : decode cX2_init 17 = .ok (.putfield 18, 3) := by decide +kernel
theorem dX2_init_20 : decode cX2_init 20 = .ok (.aload_n 0, 1) := by decide +kernel
theorem dX2_init_21 : decode cX2_init 21 = .ok (.bipush 8, 2) := by decide +kernel
theorem dX2_init_23 : decode cX2_init 23 = .ok (.newarray .int, 2) := by decide +kernel
theorem dX2_init_25 : decode cX2_init 25 = .ok (.putfield 21, 3) := by decide +kernel
theorem dX2_init_28 : decode cX2_init 28 = .ok (.aload_n 0, 1) := by decide +kernel
theorem dX2_init_29 : decode cX2_init 29 = .ok (.bipush 8, 2) := by decide +kernel
theorem dX2_init_31 : decode cX2_init 31 = .ok (.newarray .int, 2) := by decide +kernel
theorem dX2_init_33 : decode cX2_init 33 = .ok (.putfield 25, 3) := by decide +kernel
theorem dX2_init_36 : decode cX2_init 36 = .ok (.aload_n 0, 1) := by decide +kernel
theorem dX2_init_37 : decode cX2_init 37 = .ok (.bipush 8, 2) := by decide +kernel
theorem dX2_init_39 : decode cX2_init 39 = .ok (.newarray .int, 2) := by decide +kernel
theorem dX2_init_41 : decode cX2_init 41 = .ok (.putfield 28, 3) := by decide +kernel
theorem dX2_init_44 : decode cX2_init 44 = .ok (.aload_n 0, 1) := by decide +kernel
theorem dX2_init_45 : decode cX2_init 45 = .ok (.bipush 8, 2) := by decide +kernel
theorem dX2_init_47 : decode cX2_init 47 = .ok (.newarray .int, 2) := by decide +kernel
theorem dX2_init_49 : decode cX2_init 49 = .ok (.putfield 31, 3) := by decide +kernel
theorem dX2_init_52 : decode cX2_init 52 = .ok (.aload_n 0, 1) := by decide +kernel
theorem dX2_init_53 : decode cX2_init 53 = .ok (.bipush 8, 2) := by decide +kernel
theorem dX2_init_55 : decode cX2_init 55 = .ok (.newarray .int, 2) := by decide +kernel
theorem dX2_init_57 : decode cX2_init 57 = .ok (.putfield 34, 3) := by decide +kernel
theorem dX2_init_60 : decode cX2_init 60 = .ok (.aload_n 0, 1) := by decide +kernel
theorem dX2_init_61 : decode cX2_init 61 = .ok (.new 37, 3) := by decide +kernel
theorem dX2_init_64 : decode cX2_init 64 = .ok (.dup, 1) := by decide +kernel
theorem dX2_init_65 : decode cX2_init 65 = .ok (.invokespecial 39, 3) := by decide +kernel
theorem dX2_init_68 : decode cX2_init 68 = .ok (.putfield 40, 3) := by decide +kernel
theorem dX2_init_71 : decode cX2_init 71 = .ok (.aload_n 0, 1) := by decide +kernel
theorem dX2_init_72 : decode cX2_init 72 = .ok (.new 37, 3) := by decide +kernel
theorem dX2_init_75 : decode cX2_init 75 = .ok (.dup, 1) := by decide +kernel
theorem dX2_init_76 : decode cX2_init 76 = .ok (.invokespecial 39, 3) := by decide +kernel
theorem dX2_init_79 : decode cX2_init 79 = .ok (.putfield 44, 3) := by decide +kernel
theorem dX2_init_82 : decode cX2_init 82 = .ok (.aload_n 0, 1) := by decide +kernel
theorem dX2_init_83 : decode cX2_init 83 = .ok (.iconst 0, 1) := by decide +kernel
theorem dX2_init_84 : decode cX2_init 84 = .ok (.putfield 47, 3) := by decide +kernel
theorem dX2_init_87 : decode cX2_init 87 = .ok (.aload_n 0, 1) := by decide +kernel
theorem dX2_init_88 : decode cX2_init 88 = .ok (.iconst 0, 1) := by decide +kernel
theorem dX2_init_89 : decode cX2_init 89 = .ok (.putfield 50, 3) := by decide +kernel
theorem dX2_init_92 : decode cX2_init 92 = .ok (.aload_n 0, 1) := by decide +kernel
theorem dX2_init_93 : decode cX2_init 93 = .ok (.invokevirtual 53, 3) := by decide +kernel
theorem dX2_init_96 : decode cX2_init 96 = .ok (.return_, 1) := by decide +kernel
theorem dX2_clear_0 : decode cX2_clear 0 = .ok (.aload_n 0, 1) := by decide +kernel
theorem dX2_clear_1 : decode cX2_clear 1 = .ok (.bipush 9, 2) := by decide +kernel
theorem dX2_clear_3 : decode cX2_clear 3 = .ok (.putfield 9, 3) := by decide +kernel
theorem dX2_clear_6 : decode cX2_clear 6 = .ok (.aload_n 0, 1) := by decide +kernel
theorem dX2_clear_7 : decode cX2_clear 7 = .ok (.iconst 0, 1) := by decide +kernel
theorem dX2_clear_8 : decode cX2_clear 8 = .ok (.putfield 15, 3) := by decide +kernel
theorem dX2_clear_11 : decode cX2_clear 11 = .ok (.aload_n 0, 1) := by decide +kernel
theorem dX2_clear_12 : decode cX2_clear 12 = .ok (.iconst 0, 1) := by decide +kernel
theorem dX2_clear_13 : decode cX2_clear 13 = .ok (.putfield 18, 3) := by decide +kernel
theorem dX2_clear_16 : decode cX2_clear 16 = .ok (.aload_n 0, 1) := by decide +kernel
theorem dX2_clear_17 : decode cX2_clear 17 = .ok (.iconst 0, 1) := by decide +kernel
theorem dX2_clear_18 : decode cX2_clear 18 = .ok (.putfield 47, 3) := by decide +kernel
theorem dX2_clear_21 : decode cX2_clear 21 = .ok (.aload_n 0, 1) := by decide +kernel
theorem dX2_clear_22 : decode cX2_clear 22 = .ok (.iconst 0, 1) := by decide +kernel
theorem dX2_clear_23 : decode cX2_clear 23 = .ok (.putfield 50, 3) := by decide +kernel
theorem dX2_clear_26 : decode cX2_clear 26 = .ok (.iconst 0, 1) := by decide +kernel
theorem dX2_clear_27 : decode cX2_clear 27 = .ok (.istore_n 1, 1) := by decide +kernel
theorem dX2_clear_28 : decode cX2_clear 28 = .ok (.iload_n 1, 1) := by decide +kernel
theorem dX2_clear_29 : decode cX2_clear 29 = .ok (.bipush 8, 2) := by decide +kernel
theorem dX2_clear_31 : decode cX2_clear 31 = .ok (.if_icmp .ge 44, 3) := by decide +kernel
theorem dX2_clear_34 : decode cX2_clear 34 = .ok (.aload_n 0, 1) := by decide +kernel
theorem dX2_clear_35 : decode cX2_clear 35 = .ok (.getfield 21, 3) := by decide +kernel
theorem dX2_clear_38 : decode cX2_clear 38 = .ok (.iload_n 1, 1) := by decide +kernel
theorem dX2_clear_39 : decode cX2_clear 39 = .ok (.iconst 0, 1) := by decide +kernel
theorem dX2_clear_40 : decode cX2_clear 40 = .ok (.iastore, 1) := by decide +kernel
theorem dX2_clear_41 : decode cX2_clear 41 = .ok (.aload_n 0, 1) := by decide +kernel
theorem dX2_clear_42 : decode cX2_clear 42 = .ok (.getfield 25, 3) := by decide +kernel
theorem dX2_clear_45 : decode cX2_clear 45 = .ok (.iload_n 1, 1) := by decide +kernel
theorem dX2_clear_46 : decode cX2_clear 46 = .ok (.iconst 0, 1) := by decide +kernel
theorem dX2_clear_47 : decode cX2_clear 47 = .ok (.iastore, 1) := by decide +kernel
theorem dX2_clear_48 : decode cX2_clear 48 = .ok (.aload_n 0, 1) := by decide +kernel
theorem dX2_clear_49 : decode cX2_clear 49 = .ok (.getfield 28, 3) := by decide +kernel
theorem dX2_clear_52 : decode cX2_clear 52 = .ok (.iload_n 1, 1) := by decide +kernel
theorem dX2_clear_53 : decode cX2_clear 53 = .ok (.iconst 0, 1) := by decide +kernel
theorem dX2_clear_54 : decode cX2_clear 54 = .ok (.iastore, 1) := by decide +kernel
theorem dX2_clear_55 : decode cX2_clear 55 = .ok (.aload_n 0, 1) := by decide +kernel
theorem dX2_clear_56 : decode cX2_clear 56 = .ok (.getfield 31, 3) := by decide +kernel
theorem dX2_clear_59 : decode cX2_clear 59 = .ok (.iload_n 1, 1) := by decide +kernel
theorem dX2_clear_60 : decode cX2_clear 60 = .ok (.iconst 0, 1) := by decide +kernel
theorem dX2_clear_61 : decode cX2_clear 61 = .ok (.iastore, 1) := by decide +kernel
theorem dX2_clear_62 : decode cX2_clear 62 = .ok (.aload_n 0, 1) := by decide +kernel
theorem dX2_clear_63 : decode cX2_clear 63 = .ok (.getfield 34, 3) := by decide +kernel
theorem dX2_clear_66 : decode cX2_clear 66 = .ok (.iload_n 1, 1) := by decide +kernel
theorem dX2_clear_67 : decode cX2_clear 67 = .ok (.iconst 0, 1) := by decide +kernel
theorem dX2_clear_68 : decode cX2_clear 68 = .ok (.iastore, 1) := by decide +kernel
theorem dX2_clear_69 : decode cX2_clear 69 = .ok (.iinc 1 1, 3) := by decide +kernel
theorem dX2_clear_72 : decode cX2_clear 72 = .ok (.goto (-44), 3) := by decide +kernel
theorem dX2_clear_75 : decode cX2_clear 75 = .ok (.aload_n 0, 1) := by decide +kernel
theorem dX2_clear_76 : decode cX2_clear 76 = .ok (.getfield 40, 3) := by decide +kernel
theorem dX2_clear_79 : decode cX2_clear 79 = .ok (.invokevirtual 56, 3) := by decide +kernel
theorem dX2_clear_82 : decode cX2_clear 82 = .ok (.aload_n 0, 1) := by decide +kernel
theorem dX2_clear_83 : decode cX2_clear 83 = .ok (.getfield 40, 3) := by decide +kernel
theorem dX2_clear_86 : decode cX2_clear 86 = .ok (.iconst 1, 1) := by decide +kernel
theorem dX2_clear_87 : decode cX2_clear 87 = .ok (.invokevirtual 57, 3) := by decide +kernel
theorem dX2_clear_90 : decode cX2_clear 90 = .ok (.aload_n 0, 1) := by decide +kernel
theorem dX2_clear_91 : decode cX2_clear 91 = .ok (.getfield 40, 3) := by decide +kernel
theorem dX2_clear_94 : decode cX2_clear 94 = .ok (.bipush 10, 2) := by decide +kernel
theorem dX2_clear_96 : decode cX2_clear 96 = .ok (.invokevirtual 61, 3) := by decide +kernel
theorem dX2_clear_99 : decode cX2_clear 99 = .ok (.aload_n 0, 1) := by decide +kernel
theorem dX2_clear_100 : decode cX2_clear 100 = .ok (.getfield 40, 3) := by decide +kernel
theorem dX2_clear_103 : decode cX2_clear 103 = .ok (.bipush 42, 2) := by decide +kernel
theorem dX2_clear_105 : decode cX2_clear 105 = .ok (.invokevirtual 57, 3) := by decide +kernel
theorem dX2_clear_108 : decode cX2_clear 108 = .ok (.aload_n 0, 1) := by decide +kernel
theorem dX2_clear_109 : decode cX2_clear 109 = .ok (.getfield 44, 3) := by decide +kernel
theorem dX2_clear_112 : decode cX2_clear 112 = .ok (.invokevirtual 56, 3) := by decide +kernel
theorem dX2_clear_115 : decode cX2_clear 115 = .ok (.aload_n 0, 1) := by decide +kernel
theorem dX2_clear_116 : decode cX2_clear 116 = .ok (.getfield 44, 3) := by decide +kernel
theorem dX2_clear_119 : decode cX2_clear 119 = .ok (.iconst 5, 1) := by decide +kernel
theorem dX2_clear_120 : decode cX2_clear 120 = .ok (.invokevirtual 57, 3) := by decide +kernel
theorem dX2_clear_123 : decode cX2_clear 123 = .ok (.aload_n 0, 1) := by decide +kernel
theorem dX2_clear_124 : decode cX2_clear 124 = .ok (.getfield 44, 3) := by decide +kernel
theorem dX2_clear_127 : decode cX2_clear 127 = .ok (.bipush 10, 2) := by decide +kernel
theorem dX2_clear_129 : decode cX2_clear 129 = .ok (.invokevirtual 61, 3) := by decide +kernel
theorem dX2_clear_132 : decode cX2_clear 132 = .ok (.aload_n 0, 1) := by decide +kernel
theorem dX2_clear_133 : decode cX2_clear 133 = .ok (.getfield 44, 3) := by decide +kernel
theorem dX2_clear_136 : decode cX2_clear 136 = .ok (.bipush 47, 2) := by decide +kernel
theorem dX2_clear_138 : decode cX2_clear 138 = .ok (.invokevirtual 57, 3) := by decide +kernel
theorem dX2_clear_141 : decode cX2_clear 141 = .ok (.return_, 1) := by decide +kernel
theorem dX2_begin_0 : decode cX2_begin 0 = .ok (.iconst 0, 1) := by decide +kernel
theorem dX2_begin_1 : decode cX2_begin 1 = .ok (.istore_n 2, 1) := by decide +kernel
theorem dX2_begin_2 : decode cX2_begin 2 = .ok (.iload_n 2, 1) := by decide +kernel
theorem dX2_begin_3 : decode cX2_begin 3 = .ok (.bipush 8, 2) := by decide +kernel
theorem dX2_begin_5 : decode cX2_begin 5 = .ok (.if_icmp .ge 35, 3) := by decide +kernel
theorem dX2_begin_8 : decode cX2_begin 8 = .ok (.aload_n 1, 1) := by decide +kernel
theorem dX2_begin_9 : decode cX2_begin 9 = .ok (.getfield 64, 3) := by decide +kernel
theorem dX2_begin_12 : decode cX2_begin 12 = .ok (.iload_n 2, 1) := by decide +kernel
theorem dX2_begin_13 : decode cX2_begin 13 = .ok (.aload_n 0, 1) := by decide +kernel
theorem dX2_begin_14 : decode cX2_begin 14 = .ok (.getfield 25, 3) := by decide +kernel
theorem dX2_begin_17 : decode cX2_begin 17 = .ok (.iload_n 2, 1) := by decide +kernel
theorem dX2_begin_18 : decode cX2_begin 18 = .ok (.iaload, 1) := by decide +kernel
theorem dX2_begin_19 : decode cX2_begin 19 = .ok (.iastore, 1) := by decide +kernel
theorem dX2_begin_20 : decode cX2_begin 20 = .ok (.aload_n 1, 1) := by decide +kernel
theorem dX2_begin_21 : decode cX2_begin 21 = .ok (.getfield 69, 3) := by decide +kernel
theorem dX2_begin_24 : decode cX2_begin 24 = .ok (.iload_n 2, 1) := by decide +kernel
theorem dX2_begin_25 : decode cX2_begin 25 = .ok (.iconst 0, 1) := by decide +kernel
theorem dX2_begin_26 : decode cX2_begin 26 = .ok (.iastore, 1) := by decide +kernel
theorem dX2_begin_27 : decode cX2_begin 27 = .ok (.aload_n 1, 1) := by decide +kernel
theorem dX2_begin_28 : decode cX2_begin 28 = .ok (.getfield 72, 3) := by decide +kernel
theorem dX2_begin_31 : decode cX2_begin 31 = .ok (.iload_n 2, 1) := by decide +kernel
theorem dX2_begin_32 : decode cX2_begin 32 = .ok (.iconst 0, 1) := by decide +kernel
theorem dX2_begin_33 : decode cX2_begin 33 = .ok (.iastore, 1) := by decide +kernel
theorem dX2_begin_34 : decode cX2_begin 34 = .ok (.iinc 2 1, 3) := by decide +kernel
theorem dX2_begin_37 : decode cX2_begin 37 = .ok (.goto (-35), 3) := by decide +kernel
theorem dX2_begin_40 : decode cX2_begin 40 = .ok (.aload_n 1, 1) := by decide +kernel
theorem dX2_begin_41 : decode cX2_begin 41 = .ok (.iconst 0, 1) := by decide +kernel
theorem dX2_begin_42 : decode cX2_begin 42 = .ok (.putfield 75, 3) := by decide +kernel
theorem dX2_begin_45 : decode cX2_begin 45 = .ok (.aload_n 1, 1) := by decide +kernel
theorem dX2_begin_46 : decode cX2_begin 46 = .ok (.aload_n 0, 1) := by decide +kernel
theorem dX2_begin_47 : decode cX2_begin 47 = .ok (.getfield 15, 3) := by decide +kernel
theorem dX2_begin_50 : decode cX2_begin 50 = .ok (.putfield 78, 3) := by decide +kernel
theorem dX2_begin_53 : decode cX2_begin 53 = .ok (.aload_n 1, 1) := by decide +kernel
theorem dX2_begin_54 : decode cX2_begin 54 = .ok (.iconst 0, 1) := by decide +kernel
theorem dX2_begin_55 : decode cX2_begin 55 = .ok (.putfield 81, 3) := by decide +kernel
theorem dX2_begin_58 : decode cX2_begin 58 = .ok (.aload_n 1, 1) := by decide +kernel
theorem dX2_begin_59 : decode cX2_begin 59 = .ok (.aload_n 0, 1) := by decide +kernel
theorem dX2_begin_60 : decode cX2_begin 60 = .ok (.getfield 47, 3) := by decide +kernel
theorem dX2_begin_63 : decode cX2_begin 63 = .ok (.putfield 84, 3) := by decide +kernel
theorem dX2_begin_66 : decode cX2_begin 66 = .ok (.return_, 1) := by decide +kernel
theorem dX2_hasTenant_0 : decode cX2_hasTenant 0 = .ok (.iload_n 1, 1) := by decide +kernel
theorem dX2_hasTenant_1 : decode cX2_hasTenant 1 = .ok (.ifCond .lt 21, 3) := by decide +kernel
theorem dX2_hasTenant_4 : decode cX2_hasTenant 4 = .ok (.iload_n 1, 1) := by decide +kernel
theorem dX2_hasTenant_5 : decode cX2_hasTenant 5 = .ok (.aload_n 0, 1) := by decide +kernel
theorem dX2_hasTenant_6 : decode cX2_hasTenant 6 = .ok (.getfield 18, 3) := by decide +kernel
theorem dX2_hasTenant_9 : decode cX2_hasTenant 9 = .ok (.if_icmp .ge 13, 3) := by decide +kernel
theorem dX2_hasTenant_12 : decode cX2_hasTenant 12 = .ok (.iload_n 1, 1) := by decide +kernel
theorem dX2_hasTenant_13 : decode cX2_hasTenant 13 = .ok (.bipush 8, 2) := by decide +kernel
theorem dX2_hasTenant_15 : decode cX2_hasTenant 15 = .ok (.if_icmp .ge 7, 3) := by decide +kernel
theorem dX2_hasTenant_18 : decode cX2_hasTenant 18 = .ok (.iconst 1, 1) := by decide +kernel
theorem dX2_hasTenant_19 : decode cX2_hasTenant 19 = .ok (.goto 4, 3) := by decide +kernel
theorem dX2_hasTenant_22 : decode cX2_hasTenant 22 = .ok (.iconst 0, 1) := by decide +kernel
theorem dX2_hasTenant_23 : decode cX2_hasTenant 23 = .ok (.ireturn, 1) := by decide +kernel
theorem dX2_hasStorey_0 : decode cX2_hasStorey 0 = .ok (.iload_n 1, 1) := by decide +kernel
theorem dX2_hasStorey_1 : decode cX2_hasStorey 1 = .ok (.ifCond .lt 15, 3) := by decide +kernel
theorem dX2_hasStorey_4 : decode cX2_hasStorey 4 = .ok (.iload_n 1, 1) := by decide +kernel
theorem dX2_hasStorey_5 : decode cX2_hasStorey 5 = .ok (.aload_n 0, 1) := by decide +kernel
theorem dX2_hasStorey_6 : decode cX2_hasStorey 6 = .ok (.getfield 9, 3) := by decide +kernel
theorem dX2_hasStorey_9 : decode cX2_hasStorey 9 = .ok (.if_icmp .gt 7, 3) := by decide +kernel
theorem dX2_hasStorey_12 : decode cX2_hasStorey 12 = .ok (.iconst 1, 1) := by decide +kernel
theorem dX2_hasStorey_13 : decode cX2_hasStorey 13 = .ok (.goto 4, 3) := by decide +kernel
theorem dX2_hasStorey_16 : decode cX2_hasStorey 16 = .ok (.iconst 0, 1) := by decide +kernel
theorem dX2_hasStorey_17 : decode cX2_hasStorey 17 = .ok (.ireturn, 1) := by decide +kernel
theorem dX2_canBeClimbed_0 : decode cX2_canBeClimbed 0 = .ok (.iload_n 1, 1) := by decide +kernel
theorem dX2_canBeClimbed_1 : decode cX2_canBeClimbed 1 = .ok (.iconst 1, 1) := by decide +kernel
theorem dX2_canBeClimbed_2 : decode cX2_canBeClimbed 2 = .ok (.if_icmp .lt 15, 3) := by decide +kernel
theorem dX2_canBeClimbed_5 : decode cX2_canBeClimbed 5 = .ok (.iload_n 1, 1) := by decide +kernel
theorem dX2_canBeClimbed_6 : decode cX2_canBeClimbed 6 = .ok (.aload_n 0, 1) := by decide +kernel
theorem dX2_canBeClimbed_7 : decode cX2_canBeClimbed 7 = .ok (.getfield 9, 3) := by decide +kernel
theorem dX2_canBeClimbed_10 : decode cX2_canBeClimbed 10 = .ok (.if_icmp .gt 7, 3) := by decide +kernel
theorem dX2_canBeClimbed_13 : decode cX2_canBeClimbed 13 = .ok (.iconst 1, 1) := by decide +kernel
theorem dX2_canBeClimbed_14 : decode cX2_canBeClimbed 14 = .ok (.goto 4, 3) := by decide +kernel
theorem dX2_canBeClimbed_17 : decode cX2_canBeClimbed 17 = .ok (.iconst 0, 1) := by decide +kernel
theorem dX2_canBeClimbed_18 : decode cX2_canBeClimbed 18 = .ok (.ireturn, 1) := by decide +kernel
theorem dX2_heavyOf_0 : decode cX2_heavyOf 0 = .ok (.aload_n 0, 1) := by decide +kernel
theorem dX2_heavyOf_1 : decode cX2_heavyOf 1 = .ok (.iload_n 1, 1) := by decide +kernel
theorem dX2_heavyOf_2 : decode cX2_heavyOf 2 = .ok (.invokevirtual 87, 3) := by decide +kernel
theorem dX2_heavyOf_5 : decode cX2_heavyOf 5 = .ok (.ifCond .eq 12, 3) := by decide +kernel
theorem dX2_heavyOf_8 : decode cX2_heavyOf 8 = .ok (.aload_n 0, 1) := by decide +kernel
theorem dX2_heavyOf_9 : decode cX2_heavyOf 9 = .ok (.getfield 28, 3) := by decide +kernel
theorem dX2_heavyOf_12 : decode cX2_heavyOf 12 = .ok (.iload_n 1, 1) := by decide +kernel
theorem dX2_heavyOf_13 : decode cX2_heavyOf 13 = .ok (.iaload, 1) := by decide +kernel
theorem dX2_heavyOf_14 : decode cX2_heavyOf 14 = .ok (.goto 4, 3) := by decide +kernel
theorem dX2_heavyOf_17 : decode cX2_heavyOf 17 = .ok (.iconst 0, 1) := by decide +kernel
theorem dX2_heavyOf_18 : decode cX2_heavyOf 18 = .ok (.ireturn, 1) := by decide +kernel
theorem dX2_breathFor_0 : decode cX2_breathFor 0 = .ok (.iload_n 1, 1) := by decide +kernel
theorem dX2_breathFor_1 : decode cX2_breathFor 1 = .ok (.iconst 1, 1) := by decide +kernel
theorem dX2_breathFor_2 : decode cX2_breathFor 2 = .ok (.iload_n 2, 1) := by decide +kernel
theorem dX2_breathFor_3 : decode cX2_breathFor 3 = .ok (.iconst 3, 1) := by decide +kernel
theorem dX2_breathFor_4 : decode cX2_breathFor 4 = .ok (.idiv, 1) := by decide +kernel
theorem dX2_breathFor_5 : decode cX2_breathFor 5 = .ok (.iadd, 1) := by decide +kernel
theorem dX2_breathFor_6 : decode cX2_breathFor 6 = .ok (.imul, 1) := by decide +kernel
theorem dX2_breathFor_7 : decode cX2_breathFor 7 = .ok (.ireturn, 1) := by decide +kernel
theorem dX2_costOf_0 : decode cX2_costOf 0 = .ok (.bipush 30, 2) := by decide +kernel
theorem dX2_costOf_2 : decode cX2_costOf 2 = .ok (.aload_n 0, 1) := by decide +kernel
theorem dX2_costOf_3 : decode cX2_costOf 3 = .ok (.getfield 21, 3) := by decide +kernel
theorem dX2_costOf_6 : decode cX2_costOf 6 = .ok (.iload_n 1, 1) := by decide +kernel
theorem dX2_costOf_7 : decode cX2_costOf 7 = .ok (.iaload, 1) := by decide +kernel
theorem dX2_costOf_8 : decode cX2_costOf 8 = .ok (.imul, 1) := by decide +kernel
theorem dX2_costOf_9 : decode cX2_costOf 9 = .ok (.aload_n 0, 1) := by decide +kernel
theorem dX2_costOf_10 : decode cX2_costOf 10 = .ok (.getfield 31, 3) := by decide +kernel
theorem dX2_costOf_13 : decode cX2_costOf 13 = .ok (.iload_n 1, 1) := by decide +kernel
theorem dX2_costOf_14 : decode cX2_costOf 14 = .ok (.iaload, 1) := by decide +kernel
theorem dX2_costOf_15 : decode cX2_costOf 15 = .ok (.iadd, 1) := by decide +kernel
theorem dX2_costOf_16 : decode cX2_costOf 16 = .ok (.ireturn, 1) := by decide +kernel
theorem dX2_lackOf_0 : decode cX2_lackOf 0 = .ok (.iconst 0, 1) := by decide +kernel
theorem dX2_lackOf_1 : decode cX2_lackOf 1 = .ok (.aload_n 0, 1) := by decide +kernel
theorem dX2_lackOf_2 : decode cX2_lackOf 2 = .ok (.getfield 31, 3) := by decide +kernel
theorem dX2_lackOf_5 : decode cX2_lackOf 5 = .ok (.iload_n 2, 1) := by decide +kernel
theorem dX2_lackOf_6 : decode cX2_lackOf 6 = .ok (.iaload, 1) := by decide +kernel
theorem dX2_lackOf_7 : decode cX2_lackOf 7 = .ok (.aload_n 1, 1) := by decide +kernel
theorem dX2_lackOf_8 : decode cX2_lackOf 8 = .ok (.getfield 72, 3) := by decide +kernel
theorem dX2_lackOf_11 : decode cX2_lackOf 11 = .ok (.iload_n 2, 1) := by decide +kernel
theorem dX2_lackOf_12 : decode cX2_lackOf 12 = .ok (.iaload, 1) := by decide +kernel
theorem dX2_lackOf_13 : decode cX2_lackOf 13 = .ok (.iadd, 1) := by decide +kernel
theorem dX2_lackOf_14 : decode cX2_lackOf 14 = .ok (.aload_n 1, 1) := by decide +kernel
theorem dX2_lackOf_15 : decode cX2_lackOf 15 = .ok (.getfield 69, 3) := by decide +kernel
theorem dX2_lackOf_18 : decode cX2_lackOf 18 = .ok (.iload_n 2, 1) := by decide +kernel
theorem dX2_lackOf_19 : decode cX2_lackOf 19 = .ok (.iaload, 1) := by decide +kernel
theorem dX2_lackOf_20 : decode cX2_lackOf 20 = .ok (.isub, 1) := by decide +kernel
theorem dX2_lackOf_21 : decode cX2_lackOf 21 = .ok (.invokestatic 91, 3) := by decide +kernel
theorem dX2_lackOf_24 : decode cX2_lackOf 24 = .ok (.ireturn, 1) := by decide +kernel
theorem dX2_surplusOf_0 : decode cX2_surplusOf 0 = .ok (.iconst 0, 1) := by decide +kernel
theorem dX2_surplusOf_1 : decode cX2_surplusOf 1 = .ok (.aload_n 1, 1) := by decide +kernel
theorem dX2_surplusOf_2 : decode cX2_surplusOf 2 = .ok (.getfield 69, 3) := by decide +kernel
theorem dX2_surplusOf_5 : decode cX2_surplusOf 5 = .ok (.iload_n 2, 1) := by decide +kernel
theorem dX2_surplusOf_6 : decode cX2_surplusOf 6 = .ok (.iaload, 1) := by decide +kernel
theorem dX2_surplusOf_7 : decode cX2_surplusOf 7 = .ok (.aload_n 0, 1) := by decide +kernel
theorem dX2_surplusOf_8 : decode cX2_surplusOf 8 = .ok (.getfield 31, 3) := by decide +kernel
theorem dX2_surplusOf_11 : decode cX2_surplusOf 11 = .ok (.iload_n 2, 1) := by decide +kernel
theorem dX2_surplusOf_12 : decode cX2_surplusOf 12 = .ok (.iaload, 1) := by decide +kernel
theorem dX2_surplusOf_13 : decode cX2_surplusOf 13 = .ok (.isub, 1) := by decide +kernel
theorem dX2_surplusOf_14 : decode cX2_surplusOf 14 = .ok (.aload_n 1, 1) := by decide +kernel
theorem dX2_surplusOf_15 : decode cX2_surplusOf 15 = .ok (.getfield 72, 3) := by decide +kernel
theorem dX2_surplusOf_18 : decode cX2_surplusOf 18 = .ok (.iload_n 2, 1) := by decide +kernel
theorem dX2_surplusOf_19 : decode cX2_surplusOf 19 = .ok (.iaload, 1) := by decide +kernel
theorem dX2_surplusOf_20 : decode cX2_surplusOf 20 = .ok (.isub, 1) := by decide +kernel
theorem dX2_surplusOf_21 : decode cX2_surplusOf 21 = .ok (.invokestatic 91, 3) := by decide +kernel
theorem dX2_surplusOf_24 : decode cX2_surplusOf 24 = .ok (.ireturn, 1) := by decide +kernel
theorem dX2_canClimb_0 : decode cX2_canClimb 0 = .ok (.aload_n 0, 1) := by decide +kernel
theorem dX2_canClimb_1 : decode cX2_canClimb 1 = .ok (.iload_n 2, 1) := by decide +kernel
theorem dX2_canClimb_2 : decode cX2_canClimb 2 = .ok (.invokevirtual 87, 3) := by decide +kernel
theorem dX2_canClimb_5 : decode cX2_canClimb 5 = .ok (.ifCond .eq 22, 3) := by decide +kernel
theorem dX2_canClimb_8 : decode cX2_canClimb 8 = .ok (.aload_n 0, 1) := by decide +kernel
theorem dX2_canClimb_9 : decode cX2_canClimb 9 = .ok (.iload_n 3, 1) := by decide +kernel
theorem dX2_canClimb_10 : decode cX2_canClimb 10 = .ok (.invokevirtual 97, 3) := by decide +kernel
theorem dX2_canClimb_13 : decode cX2_canClimb 13 = .ok (.ifCond .eq 14, 3) := by decide +kernel
theorem dX2_canClimb_16 : decode cX2_canClimb 16 = .ok (.iload 5, 2) := by decide +kernel
theorem dX2_canClimb_18 : decode cX2_canClimb 18 = .ok (.ifCond .eq 11, 3) := by decide +kernel
theorem dX2_canClimb_21 : decode cX2_canClimb 21 = .ok (.iload 5, 2) := by decide +kernel
theorem dX2_canClimb_23 : decode cX2_canClimb 23 = .ok (.iconst 1, 1) := by decide +kernel
theorem dX2_canClimb_24 : decode cX2_canClimb 24 = .ok (.if_icmp .eq 5, 3) := by decide +kernel
theorem dX2_canClimb_27 : decode cX2_canClimb 27 = .ok (.iconst 0, 1) := by decide +kernel
theorem dX2_canClimb_28 : decode cX2_canClimb 28 = .ok (.ireturn, 1) := by decide +kernel
theorem dX2_canClimb_29 : decode cX2_canClimb 29 = .ok (.iload 4, 2) := by decide +kernel
theorem dX2_canClimb_31 : decode cX2_canClimb 31 = .ok (.iconst (-1), 1) := by decide +kernel
theorem dX2_canClimb_32 : decode cX2_canClimb 32 = .ok (.if_icmp .eq 20, 3) := by decide +kernel
theorem dX2_canClimb_35 : decode cX2_canClimb 35 = .ok (.aload_n 0, 1) := by decide +kernel
theorem dX2_canClimb_36 : decode cX2_canClimb 36 = .ok (.iload 4, 2) := by decide +kernel
theorem dX2_canClimb_38 : decode cX2_canClimb 38 = .ok (.invokevirtual 87, 3) := by decide +kernel
theorem dX2_canClimb_41 : decode cX2_canClimb 41 = .ok (.ifCond .eq 9, 3) := by decide +kernel
theorem dX2_canClimb_44 : decode cX2_canClimb 44 = .ok (.iload 4, 2) := by decide +kernel
theorem dX2_canClimb_46 : decode cX2_canClimb 46 = .ok (.iload_n 2, 1) := by decide +kernel
theorem dX2_canClimb_47 : decode cX2_canClimb 47 = .ok (.if_icmp .ne 5, 3) := by decide +kernel
theorem dX2_canClimb_50 : decode cX2_canClimb 50 = .ok (.iconst 0, 1) := by decide +kernel
theorem dX2_canClimb_51 : decode cX2_canClimb 51 = .ok (.ireturn, 1) := by decide +kernel
theorem dX2_canClimb_52 : decode cX2_canClimb 52 = .ok (.aload_n 0, 1) := by decide +kernel
theorem dX2_canClimb_53 : decode cX2_canClimb 53 = .ok (.iload_n 3, 1) := by decide +kernel
theorem dX2_canClimb_54 : decode cX2_canClimb 54 = .ok (.aload_n 0, 1) := by decide +kernel
theorem dX2_canClimb_55 : decode cX2_canClimb 55 = .ok (.iload 4, 2) := by decide +kernel
theorem dX2_canClimb_57 : decode cX2_canClimb 57 = .ok (.invokevirtual 100, 3) := by decide +kernel
theorem dX2_canClimb_60 : decode cX2_canClimb 60 = .ok (.invokevirtual 104, 3) := by decide +kernel
theorem dX2_canClimb_63 : decode cX2_canClimb 63 = .ok (.aload_n 1, 1) := by decide +kernel
theorem dX2_canClimb_64 : decode cX2_canClimb 64 = .ok (.getfield 64, 3) := by decide +kernel
theorem dX2_canClimb_67 : decode cX2_canClimb 67 = .ok (.iload_n 2, 1) := by decide +kernel
theorem dX2_canClimb_68 : decode cX2_canClimb 68 = .ok (.iaload, 1) := by decide +kernel
theorem dX2_canClimb_69 : decode cX2_canClimb 69 = .ok (.if_icmp .gt 7, 3) := by decide +kernel
theorem dX2_canClimb_72 : decode cX2_canClimb 72 = .ok (.iconst 1, 1) := by decide +kernel
theorem dX2_canClimb_73 : decode cX2_canClimb 73 = .ok (.goto 4, 3) := by decide +kernel
theorem dX2_canClimb_76 : decode cX2_canClimb 76 = .ok (.iconst 0, 1) := by decide +kernel
theorem dX2_canClimb_77 : decode cX2_canClimb 77 = .ok (.ireturn, 1) := by decide +kernel
theorem dX2_countOf_0 : decode cX2_countOf 0 = .ok (.aload_n 0, 1) := by decide +kernel
theorem dX2_countOf_1 : decode cX2_countOf 1 = .ok (.getfield 40, 3) := by decide +kernel
theorem dX2_countOf_4 : decode cX2_countOf 4 = .ok (.iload_n 2, 1) := by decide +kernel
theorem dX2_countOf_5 : decode cX2_countOf 5 = .ok (.iload_n 3, 1) := by decide +kernel
theorem dX2_countOf_6 : decode cX2_countOf 6 = .ok (.iload 4, 2) := by decide +kernel
theorem dX2_countOf_8 : decode cX2_countOf 8 = .ok (.aload_n 1, 1) := by decide +kernel
theorem dX2_countOf_9 : decode cX2_countOf 9 = .ok (.getfield 81, 3) := by decide +kernel
theorem dX2_countOf_12 : decode cX2_countOf 12 = .ok (.iload 5, 2) := by decide +kernel
theorem dX2_countOf_14 : decode cX2_countOf 14 = .ok (.aload_n 1, 1) := by decide +kernel
theorem dX2_countOf_15 : decode cX2_countOf 15 = .ok (.getfield 78, 3) := by decide +kernel
theorem dX2_countOf_18 : decode cX2_countOf 18 = .ok (.invokevirtual 107, 3) := by decide +kernel
theorem dX2_countOf_21 : decode cX2_countOf 21 = .ok (.istore 6, 2) := by decide +kernel
theorem dX2_countOf_23 : decode cX2_countOf 23 = .ok (.iconst 0, 1) := by decide +kernel
theorem dX2_countOf_24 : decode cX2_countOf 24 = .ok (.sipush 999, 3) := by decide +kernel
theorem dX2_countOf_27 : decode cX2_countOf 27 = .ok (.iload 6, 2) := by decide +kernel
theorem dX2_countOf_29 : decode cX2_countOf 29 = .ok (.invokestatic 111, 3) := by decide +kernel
theorem dX2_countOf_32 : decode cX2_countOf 32 = .ok (.invokestatic 91, 3) := by decide +kernel
theorem dX2_countOf_35 : decode cX2_countOf 35 = .ok (.ireturn, 1) := by decide +kernel
theorem dX2_failsNext_0 : decode cX2_failsNext 0 = .ok (.aload_n 1, 1) := by decide +kernel
theorem dX2_failsNext_1 : decode cX2_failsNext 1 = .ok (.aload_n 1, 1) := by decide +kernel
theorem dX2_failsNext_2 : decode cX2_failsNext 2 = .ok (.getfield 84, 3) := by decide +kernel
theorem dX2_failsNext_5 : decode cX2_failsNext 5 = .ok (.sipush 137, 3) := by decide +kernel
theorem dX2_failsNext_8 : decode cX2_failsNext 8 = .ok (.imul, 1) := by decide +kernel
theorem dX2_failsNext_9 : decode cX2_failsNext 9 = .ok (.bipush 71, 2) := by decide +kernel
theorem dX2_failsNext_11 : decode cX2_failsNext 11 = .ok (.iadd, 1) := by decide +kernel
theorem dX2_failsNext_12 : decode cX2_failsNext 12 = .ok (.sipush 1000, 3) := by decide +kernel
theorem dX2_failsNext_15 : decode cX2_failsNext 15 = .ok (.irem, 1) := by decide +kernel
theorem dX2_failsNext_16 : decode cX2_failsNext 16 = .ok (.putfield 84, 3) := by decide +kernel
theorem dX2_failsNext_19 : decode cX2_failsNext 19 = .ok (.aload_n 1, 1) := by decide +kernel
theorem dX2_failsNext_20 : decode cX2_failsNext 20 = .ok (.getfield 84, 3) := by decide +kernel
theorem dX2_failsNext_23 : decode cX2_failsNext 23 = .ok (.bipush 100, 2) := by decide +kernel
theorem dX2_failsNext_25 : decode cX2_failsNext 25 = .ok (.irem, 1) := by decide +kernel
theorem dX2_failsNext_26 : decode cX2_failsNext 26 = .ok (.aload_n 0, 1) := by decide +kernel
theorem dX2_failsNext_27 : decode cX2_failsNext 27 = .ok (.getfield 34, 3) := by decide +kernel
theorem dX2_failsNext_30 : decode cX2_failsNext 30 = .ok (.iload_n 2, 1) := by decide +kernel
theorem dX2_failsNext_31 : decode cX2_failsNext 31 = .ok (.iaload, 1) := by decide +kernel
theorem dX2_failsNext_32 : decode cX2_failsNext 32 = .ok (.if_icmp .ge 7, 3) := by decide +kernel
theorem dX2_failsNext_35 : decode cX2_failsNext 35 = .ok (.iconst 1, 1) := by decide +kernel
theorem dX2_failsNext_36 : decode cX2_failsNext 36 = .ok (.goto 4, 3) := by decide +kernel
theorem dX2_failsNext_39 : decode cX2_failsNext 39 = .ok (.iconst 0, 1) := by decide +kernel
theorem dX2_failsNext_40 : decode cX2_failsNext 40 = .ok (.ireturn, 1) := by decide +kernel
theorem dX2_walk_0 : decode cX2_walk 0 = .ok (.aload_n 1, 1) := by decide +kernel
theorem dX2_walk_1 : decode cX2_walk 1 = .ok (.getfield 69, 3) := by decide +kernel
theorem dX2_walk_4 : decode cX2_walk 4 = .ok (.iload_n 2, 1) := by decide +kernel
theorem dX2_walk_5 : decode cX2_walk 5 = .ok (.sipush 9999, 3) := by decide +kernel
theorem dX2_walk_8 : decode cX2_walk 8 = .ok (.aload_n 1, 1) := by decide +kernel
theorem dX2_walk_9 : decode cX2_walk 9 = .ok (.getfield 69, 3) := by decide +kernel
theorem dX2_walk_12 : decode cX2_walk 12 = .ok (.iload_n 2, 1) := by decide +kernel
theorem dX2_walk_13 : decode cX2_walk 13 = .ok (.iaload, 1) := by decide +kernel
theorem dX2_walk_14 : decode cX2_walk 14 = .ok (.iload 5, 2) := by decide +kernel
theorem dX2_walk_16 : decode cX2_walk 16 = .ok (.iadd, 1) := by decide +kernel
theorem dX2_walk_17 : decode cX2_walk 17 = .ok (.invokestatic 111, 3) := by decide +kernel
theorem dX2_walk_20 : decode cX2_walk 20 = .ok (.iastore, 1) := by decide +kernel
theorem dX2_walk_21 : decode cX2_walk 21 = .ok (.aload_n 1, 1) := by decide +kernel
theorem dX2_walk_22 : decode cX2_walk 22 = .ok (.getfield 64, 3) := by decide +kernel
theorem dX2_walk_25 : decode cX2_walk 25 = .ok (.iload_n 2, 1) := by decide +kernel
theorem dX2_walk_26 : decode cX2_walk 26 = .ok (.dup2, 1) := by decide +kernel
theorem dX2_walk_27 : decode cX2_walk 27 = .ok (.iaload, 1) := by decide +kernel
theorem dX2_walk_28 : decode cX2_walk 28 = .ok (.aload_n 0, 1) := by decide +kernel
theorem dX2_walk_29 : decode cX2_walk 29 = .ok (.iload_n 3, 1) := by decide +kernel
theorem dX2_walk_30 : decode cX2_walk 30 = .ok (.iload 4, 2) := by decide +kernel
theorem dX2_walk_32 : decode cX2_walk 32 = .ok (.invokevirtual 104, 3) := by decide +kernel
theorem dX2_walk_35 : decode cX2_walk 35 = .ok (.isub, 1) := by decide +kernel
theorem dX2_walk_36 : decode cX2_walk 36 = .ok (.iastore, 1) := by decide +kernel
theorem dX2_walk_37 : decode cX2_walk 37 = .ok (.aload_n 1, 1) := by decide +kernel
theorem dX2_walk_38 : decode cX2_walk 38 = .ok (.dup, 1) := by decide +kernel
theorem dX2_walk_39 : decode cX2_walk 39 = .ok (.getfield 75, 3) := by decide +kernel
theorem dX2_walk_42 : decode cX2_walk 42 = .ok (.iload_n 3, 1) := by decide +kernel
theorem dX2_walk_43 : decode cX2_walk 43 = .ok (.iadd, 1) := by decide +kernel
theorem dX2_walk_44 : decode cX2_walk 44 = .ok (.putfield 75, 3) := by decide +kernel
theorem dX2_walk_47 : decode cX2_walk 47 = .ok (.return_, 1) := by decide +kernel
theorem dX2_climbTillPaid_0 : decode cX2_climbTillPaid 0 = .ok (.iconst 0, 1) := by decide +kernel
theorem dX2_climbTillPaid_1 : decode cX2_climbTillPaid 1 = .ok (.istore 4, 2) := by decide +kernel
theorem dX2_climbTillPaid_3 : decode cX2_climbTillPaid 3 = .ok (.iload 4, 2) := by decide +kernel
theorem dX2_climbTillPaid_5 : decode cX2_climbTillPaid 5 = .ok (.bipush 40, 2) := by decide +kernel
theorem dX2_climbTillPaid_7 : decode cX2_climbTillPaid 7 = .ok (.if_icmp .ge 54, 3) := by decide +kernel
theorem dX2_climbTillPaid_10 : decode cX2_climbTillPaid 10 = .ok (.aload_n 0, 1) := by decide +kernel
theorem dX2_climbTillPaid_11 : decode cX2_climbTillPaid 11 = .ok (.aload_n 1, 1) := by decide +kernel
theorem dX2_climbTillPaid_12 : decode cX2_climbTillPaid 12 = .ok (.iload_n 2, 1) := by decide +kernel
theorem dX2_climbTillPaid_13 : decode cX2_climbTillPaid 13 = .ok (.invokevirtual 114, 3) := by decide +kernel
theorem dX2_climbTillPaid_16 : decode cX2_climbTillPaid 16 = .ok (.ifCond .eq 18, 3) := by decide +kernel
theorem dX2_climbTillPaid_19 : decode cX2_climbTillPaid 19 = .ok (.aload_n 1, 1) := by decide +kernel
theorem dX2_climbTillPaid_20 : decode cX2_climbTillPaid 20 = .ok (.getfield 64, 3) := by decide +kernel
theorem dX2_climbTillPaid_23 : decode cX2_climbTillPaid 23 = .ok (.iload_n 2, 1) := by decide +kernel
theorem dX2_climbTillPaid_24 : decode cX2_climbTillPaid 24 = .ok (.iaload, 1) := by decide +kernel
theorem dX2_climbTillPaid_25 : decode cX2_climbTillPaid 25 = .ok (.aload_n 0, 1) := by decide +kernel
theorem dX2_climbTillPaid_26 : decode cX2_climbTillPaid 26 = .ok (.iload_n 3, 1) := by decide +kernel
theorem dX2_climbTillPaid_27 : decode cX2_climbTillPaid 27 = .ok (.iconst 0, 1) := by decide +kernel
theorem dX2_climbTillPaid_28 : decode cX2_climbTillPaid 28 = .ok (.invokevirtual 104, 3) := by decide +kernel
theorem dX2_climbTillPaid_31 : decode cX2_climbTillPaid 31 = .ok (.if_icmp .ge 4, 3) := by decide +kernel
theorem dX2_climbTillPaid_34 : decode cX2_climbTillPaid 34 = .ok (.return_, 1) := by decide +kernel
theorem dX2_climbTillPaid_35 : decode cX2_climbTillPaid 35 = .ok (.aload_n 0, 1) := by decide +kernel
theorem dX2_climbTillPaid_36 : decode cX2_climbTillPaid 36 = .ok (.aload_n 1, 1) := by decide +kernel
theorem dX2_climbTillPaid_37 : decode cX2_climbTillPaid 37 = .ok (.iload_n 2, 1) := by decide +kernel
theorem dX2_climbTillPaid_38 : decode cX2_climbTillPaid 38 = .ok (.iload_n 3, 1) := by decide +kernel
theorem dX2_climbTillPaid_39 : decode cX2_climbTillPaid 39 = .ok (.iconst 0, 1) := by decide +kernel
theorem dX2_climbTillPaid_40 : decode cX2_climbTillPaid 40 = .ok (.aload_n 0, 1) := by decide +kernel
theorem dX2_climbTillPaid_41 : decode cX2_climbTillPaid 41 = .ok (.aload_n 1, 1) := by decide +kernel
theorem dX2_climbTillPaid_42 : decode cX2_climbTillPaid 42 = .ok (.iload_n 3, 1) := by decide +kernel
theorem dX2_climbTillPaid_43 : decode cX2_climbTillPaid 43 = .ok (.iconst 0, 1) := by decide +kernel
theorem dX2_climbTillPaid_44 : decode cX2_climbTillPaid 44 = .ok (.iconst 0, 1) := by decide +kernel
theorem dX2_climbTillPaid_45 : decode cX2_climbTillPaid 45 = .ok (.aload_n 1, 1) := by decide +kernel
theorem dX2_climbTillPaid_46 : decode cX2_climbTillPaid 46 = .ok (.getfield 75, 3) := by decide +kernel
theorem dX2_climbTillPaid_49 : decode cX2_climbTillPaid 49 = .ok (.invokevirtual 118, 3) := by decide +kernel
theorem dX2_climbTillPaid_52 : decode cX2_climbTillPaid 52 = .ok (.invokevirtual 122, 3) := by decide +kernel
theorem dX2_climbTillPaid_55 : decode cX2_climbTillPaid 55 = .ok (.iinc 4 1, 3) := by decide +kernel
theorem dX2_climbTillPaid_58 : decode cX2_climbTillPaid 58 = .ok (.goto (-55), 3) := by decide +kernel
theorem dX2_climbTillPaid_61 : decode cX2_climbTillPaid 61 = .ok (.return_, 1) := by decide +kernel
theorem dX2_pullOf_0 : decode cX2_pullOf 0 = .ok (.iconst 0, 1) := by decide +kernel
theorem dX2_pullOf_1 : decode cX2_pullOf 1 = .ok (.istore_n 3, 1) := by decide +kernel
theorem dX2_pullOf_2 : decode cX2_pullOf 2 = .ok (.iconst 0, 1) := by decide +kernel
theorem dX2_pullOf_3 : decode cX2_pullOf 3 = .ok (.istore 4, 2) := by decide +kernel
theorem dX2_pullOf_5 : decode cX2_pullOf 5 = .ok (.iload 4, 2) := by decide +kernel
theorem dX2_pullOf_7 : decode cX2_pullOf 7 = .ok (.aload_n 0, 1) := by decide +kernel
theorem dX2_pullOf_8 : decode cX2_pullOf 8 = .ok (.getfield 18, 3) := by decide +kernel
theorem dX2_pullOf_11 : decode cX2_pullOf 11 = .ok (.if_icmp .ge 19, 3) := by decide +kernel
theorem dX2_pullOf_14 : decode cX2_pullOf 14 = .ok (.iload_n 3, 1) := by decide +kernel
theorem dX2_pullOf_15 : decode cX2_pullOf 15 = .ok (.aload_n 0, 1) := by decide +kernel
theorem dX2_pullOf_16 : decode cX2_pullOf 16 = .ok (.getfield 28, 3) := by decide +kernel
theorem dX2_pullOf_19 : decode cX2_pullOf 19 = .ok (.iload 4, 2) := by decide +kernel
theorem dX2_pullOf_21 : decode cX2_pullOf 21 = .ok (.iaload, 1) := by decide +kernel
theorem dX2_pullOf_22 : decode cX2_pullOf 22 = .ok (.iadd, 1) := by decide +kernel
theorem dX2_pullOf_23 : decode cX2_pullOf 23 = .ok (.istore_n 3, 1) := by decide +kernel
theorem dX2_pullOf_24 : decode cX2_pullOf 24 = .ok (.iinc 4 1, 3) := by decide +kernel
theorem dX2_pullOf_27 : decode cX2_pullOf 27 = .ok (.goto (-22), 3) := by decide +kernel
theorem dX2_pullOf_30 : decode cX2_pullOf 30 = .ok (.aload_n 0, 1) := by decide +kernel
theorem dX2_pullOf_31 : decode cX2_pullOf 31 = .ok (.getfield 44, 3) := by decide +kernel
theorem dX2_pullOf_34 : decode cX2_pullOf 34 = .ok (.aload_n 0, 1) := by decide +kernel
theorem dX2_pullOf_35 : decode cX2_pullOf 35 = .ok (.getfield 9, 3) := by decide +kernel
theorem dX2_pullOf_38 : decode cX2_pullOf 38 = .ok (.iload_n 3, 1) := by decide +kernel
theorem dX2_pullOf_39 : decode cX2_pullOf 39 = .ok (.iconst 0, 1) := by decide +kernel
theorem dX2_pullOf_40 : decode cX2_pullOf 40 = .ok (.aload_n 1, 1) := by decide +kernel
theorem dX2_pullOf_41 : decode cX2_pullOf 41 = .ok (.getfield 81, 3) := by decide +kernel
theorem dX2_pullOf_44 : decode cX2_pullOf 44 = .ok (.iload_n 2, 1) := by decide +kernel
theorem dX2_pullOf_45 : decode cX2_pullOf 45 = .ok (.aload_n 1, 1) := by decide +kernel
theorem dX2_pullOf_46 : decode cX2_pullOf 46 = .ok (.getfield 78, 3) := by decide +kernel
theorem dX2_pullOf_49 : decode cX2_pullOf 49 = .ok (.invokevirtual 107, 3) := by decide +kernel
theorem dX2_pullOf_52 : decode cX2_pullOf 52 = .ok (.ireturn, 1) := by decide +kernel
theorem dX2_liftBehind_0 : decode cX2_liftBehind 0 = .ok (.iconst 0, 1) := by decide +kernel
theorem dX2_liftBehind_1 : decode cX2_liftBehind 1 = .ok (.aload_n 0, 1) := by decide +kernel
theorem dX2_liftBehind_2 : decode cX2_liftBehind 2 = .ok (.getfield 9, 3) := by decide +kernel
theorem dX2_liftBehind_5 : decode cX2_liftBehind 5 = .ok (.aload_n 1, 1) := by decide +kernel
theorem dX2_liftBehind_6 : decode cX2_liftBehind 6 = .ok (.getfield 78, 3) := by decide +kernel
theorem dX2_liftBehind_9 : decode cX2_liftBehind 9 = .ok (.aload_n 0, 1) := by decide +kernel
theorem dX2_liftBehind_10 : decode cX2_liftBehind 10 = .ok (.aload_n 1, 1) := by decide +kernel
theorem dX2_liftBehind_11 : decode cX2_liftBehind 11 = .ok (.iload_n 2, 1) := by decide +kernel
theorem dX2_liftBehind_12 : decode cX2_liftBehind 12 = .ok (.invokevirtual 126, 3) := by decide +kernel
theorem dX2_liftBehind_15 : decode cX2_liftBehind 15 = .ok (.iadd, 1) := by decide +kernel
theorem dX2_liftBehind_16 : decode cX2_liftBehind 16 = .ok (.invokestatic 111, 3) := by decide +kernel
theorem dX2_liftBehind_19 : decode cX2_liftBehind 19 = .ok (.invokestatic 91, 3) := by decide +kernel
theorem dX2_liftBehind_22 : decode cX2_liftBehind 22 = .ok (.ireturn, 1) := by decide +kernel
theorem dX2_passWeek_0 : decode cX2_passWeek 0 = .ok (.aload_n 1, 1) := by decide +kernel
theorem dX2_passWeek_1 : decode cX2_passWeek 1 = .ok (.aload_n 0, 1) := by decide +kernel
theorem dX2_passWeek_2 : decode cX2_passWeek 2 = .ok (.aload_n 1, 1) := by decide +kernel
theorem dX2_passWeek_3 : decode cX2_passWeek 3 = .ok (.aload_n 1, 1) := by decide +kernel
theorem dX2_passWeek_4 : decode cX2_passWeek 4 = .ok (.getfield 75, 3) := by decide +kernel
theorem dX2_passWeek_7 : decode cX2_passWeek 7 = .ok (.invokevirtual 129, 3) := by decide +kernel
theorem dX2_passWeek_10 : decode cX2_passWeek 10 = .ok (.putfield 78, 3) := by decide +kernel
theorem dX2_passWeek_13 : decode cX2_passWeek 13 = .ok (.aload_n 1, 1) := by decide +kernel
theorem dX2_passWeek_14 : decode cX2_passWeek 14 = .ok (.iconst 0, 1) := by decide +kernel
theorem dX2_passWeek_15 : decode cX2_passWeek 15 = .ok (.putfield 75, 3) := by decide +kernel
theorem dX2_passWeek_18 : decode cX2_passWeek 18 = .ok (.aload_n 1, 1) := by decide +kernel
theorem dX2_passWeek_19 : decode cX2_passWeek 19 = .ok (.dup, 1) := by decide +kernel
theorem dX2_passWeek_20 : decode cX2_passWeek 20 = .ok (.getfield 81, 3) := by decide +kernel
theorem dX2_passWeek_23 : decode cX2_passWeek 23 = .ok (.iconst 1, 1) := by decide +kernel
theorem dX2_passWeek_24 : decode cX2_passWeek 24 = .ok (.iadd, 1) := by decide +kernel
theorem dX2_passWeek_25 : decode cX2_passWeek 25 = .ok (.putfield 81, 3) := by decide +kernel
theorem dX2_passWeek_28 : decode cX2_passWeek 28 = .ok (.aload_n 1, 1) := by decide +kernel
theorem dX2_passWeek_29 : decode cX2_passWeek 29 = .ok (.getfield 81, 3) := by decide +kernel
theorem dX2_passWeek_32 : decode cX2_passWeek 32 = .ok (.iconst 4, 1) := by decide +kernel
theorem dX2_passWeek_33 : decode cX2_passWeek 33 = .ok (.irem, 1) := by decide +kernel
theorem dX2_passWeek_34 : decode cX2_passWeek 34 = .ok (.ifCond .ne 7, 3) := by decide +kernel
theorem dX2_passWeek_37 : decode cX2_passWeek 37 = .ok (.iconst 1, 1) := by decide +kernel
theorem dX2_passWeek_38 : decode cX2_passWeek 38 = .ok (.goto 4, 3) := by decide +kernel
theorem dX2_passWeek_41 : decode cX2_passWeek 41 = .ok (.iconst 0, 1) := by decide +kernel
theorem dX2_passWeek_42 : decode cX2_passWeek 42 = .ok (.istore_n 2, 1) := by decide +kernel
theorem dX2_passWeek_43 : decode cX2_passWeek 43 = .ok (.iconst 0, 1) := by decide +kernel
theorem dX2_passWeek_44 : decode cX2_passWeek 44 = .ok (.istore_n 3, 1) := by decide +kernel
theorem dX2_passWeek_45 : decode cX2_passWeek 45 = .ok (.iload_n 3, 1) := by decide +kernel
theorem dX2_passWeek_46 : decode cX2_passWeek 46 = .ok (.aload_n 0, 1) := by decide +kernel
theorem dX2_passWeek_47 : decode cX2_passWeek 47 = .ok (.getfield 18, 3) := by decide +kernel
theorem dX2_passWeek_50 : decode cX2_passWeek 50 = .ok (.if_icmp .ge 31, 3) := by decide +kernel
theorem dX2_passWeek_53 : decode cX2_passWeek 53 = .ok (.aload_n 1, 1) := by decide +kernel
theorem dX2_passWeek_54 : decode cX2_passWeek 54 = .ok (.getfield 64, 3) := by decide +kernel
theorem dX2_passWeek_57 : decode cX2_passWeek 57 = .ok (.iload_n 3, 1) := by decide +kernel
theorem dX2_passWeek_58 : decode cX2_passWeek 58 = .ok (.aload_n 0, 1) := by decide +kernel
theorem dX2_passWeek_59 : decode cX2_passWeek 59 = .ok (.getfield 25, 3) := by decide +kernel
theorem dX2_passWeek_62 : decode cX2_passWeek 62 = .ok (.iload_n 3, 1) := by decide +kernel
theorem dX2_passWeek_63 : decode cX2_passWeek 63 = .ok (.iaload, 1) := by decide +kernel
theorem dX2_passWeek_64 : decode cX2_passWeek 64 = .ok (.iastore, 1) := by decide +kernel
theorem dX2_passWeek_65 : decode cX2_passWeek 65 = .ok (.iload_n 2, 1) := by decide +kernel
theorem dX2_passWeek_66 : decode cX2_passWeek 66 = .ok (.ifCond .eq 9, 3) := by decide +kernel
theorem dX2_passWeek_69 : decode cX2_passWeek 69 = .ok (.aload_n 0, 1) := by decide +kernel
theorem dX2_passWeek_70 : decode cX2_passWeek 70 = .ok (.aload_n 1, 1) := by decide +kernel
theorem dX2_passWeek_71 : decode cX2_passWeek 71 = .ok (.iload_n 3, 1) := by decide +kernel
theorem dX2_passWeek_72 : decode cX2_passWeek 72 = .ok (.invokevirtual 132, 3) := by decide +kernel
theorem dX2_passWeek_75 : decode cX2_passWeek 75 = .ok (.iinc 3 1, 3) := by decide +kernel
theorem dX2_passWeek_78 : decode cX2_passWeek 78 = .ok (.goto (-33), 3) := by decide +kernel
theorem dX2_passWeek_81 : decode cX2_passWeek 81 = .ok (.return_, 1) := by decide +kernel
theorem dX2_payRent_0 : decode cX2_payRent 0 = .ok (.aload_n 1, 1) := by decide +kernel
theorem dX2_payRent_1 : decode cX2_payRent 1 = .ok (.getfield 72, 3) := by decide +kernel
theorem dX2_payRent_4 : decode cX2_payRent 4 = .ok (.iload_n 2, 1) := by decide +kernel
theorem dX2_payRent_5 : decode cX2_payRent 5 = .ok (.iaload, 1) := by decide +kernel
theorem dX2_payRent_6 : decode cX2_payRent 6 = .ok (.aload_n 0, 1) := by decide +kernel
theorem dX2_payRent_7 : decode cX2_payRent 7 = .ok (.getfield 31, 3) := by decide +kernel
theorem dX2_payRent_10 : decode cX2_payRent 10 = .ok (.iload_n 2, 1) := by decide +kernel
theorem dX2_payRent_11 : decode cX2_payRent 11 = .ok (.iaload, 1) := by decide +kernel
theorem dX2_payRent_12 : decode cX2_payRent 12 = .ok (.iadd, 1) := by decide +kernel
theorem dX2_payRent_13 : decode cX2_payRent 13 = .ok (.istore_n 3, 1) := by decide +kernel
theorem dX2_payRent_14 : decode cX2_payRent 14 = .ok (.iload_n 3, 1) := by decide +kernel
theorem dX2_payRent_15 : decode cX2_payRent 15 = .ok (.aload_n 1, 1) := by decide +kernel
theorem dX2_payRent_16 : decode cX2_payRent 16 = .ok (.getfield 69, 3) := by decide +kernel
theorem dX2_payRent_19 : decode cX2_payRent 19 = .ok (.iload_n 2, 1) := by decide +kernel
theorem dX2_payRent_20 : decode cX2_payRent 20 = .ok (.iaload, 1) := by decide +kernel
theorem dX2_payRent_21 : decode cX2_payRent 21 = .ok (.invokestatic 111, 3) := by decide +kernel
theorem dX2_payRent_24 : decode cX2_payRent 24 = .ok (.istore 4, 2) := by decide +kernel
theorem dX2_payRent_26 : decode cX2_payRent 26 = .ok (.aload_n 1, 1) := by decide +kernel
theorem dX2_payRent_27 : decode cX2_payRent 27 = .ok (.getfield 72, 3) := by decide +kernel
theorem dX2_payRent_30 : decode cX2_payRent 30 = .ok (.iload_n 2, 1) := by decide +kernel
theorem dX2_payRent_31 : decode cX2_payRent 31 = .ok (.iload_n 3, 1) := by decide +kernel
theorem dX2_payRent_32 : decode cX2_payRent 32 = .ok (.iload 4, 2) := by decide +kernel
theorem dX2_payRent_34 : decode cX2_payRent 34 = .ok (.isub, 1) := by decide +kernel
theorem dX2_payRent_35 : decode cX2_payRent 35 = .ok (.iastore, 1) := by decide +kernel
theorem dX2_payRent_36 : decode cX2_payRent 36 = .ok (.aload_n 1, 1) := by decide +kernel
theorem dX2_payRent_37 : decode cX2_payRent 37 = .ok (.getfield 69, 3) := by decide +kernel
theorem dX2_payRent_40 : decode cX2_payRent 40 = .ok (.iload_n 2, 1) := by decide +kernel
theorem dX2_payRent_41 : decode cX2_payRent 41 = .ok (.dup2, 1) := by decide +kernel
theorem dX2_payRent_42 : decode cX2_payRent 42 = .ok (.iaload, 1) := by decide +kernel
theorem dX2_payRent_43 : decode cX2_payRent 43 = .ok (.iload 4, 2) := by decide +kernel
theorem dX2_payRent_45 : decode cX2_payRent 45 = .ok (.isub, 1) := by decide +kernel
theorem dX2_payRent_46 : decode cX2_payRent 46 = .ok (.iastore, 1) := by decide +kernel
theorem dX2_payRent_47 : decode cX2_payRent 47 = .ok (.return_, 1) := by decide +kernel
theorem dX2_isEnvious_0 : decode cX2_isEnvious 0 = .ok (.iload 4, 2) := by decide +kernel
theorem dX2_isEnvious_2 : decode cX2_isEnvious 2 = .ok (.iload_n 2, 1) := by decide +kernel
theorem dX2_isEnvious_3 : decode cX2_isEnvious 3 = .ok (.if_icmp .gt 22, 3) := by decide +kernel
theorem dX2_isEnvious_6 : decode cX2_isEnvious 6 = .ok (.aload_n 0, 1) := by decide +kernel
theorem dX2_isEnvious_7 : decode cX2_isEnvious 7 = .ok (.getfield 31, 3) := by decide +kernel
theorem dX2_isEnvious_10 : decode cX2_isEnvious 10 = .ok (.iload_n 3, 1) := by decide +kernel
theorem dX2_isEnvious_11 : decode cX2_isEnvious 11 = .ok (.iaload, 1) := by decide +kernel
theorem dX2_isEnvious_12 : decode cX2_isEnvious 12 = .ok (.aload_n 0, 1) := by decide +kernel
theorem dX2_isEnvious_13 : decode cX2_isEnvious 13 = .ok (.getfield 31, 3) := by decide +kernel
theorem dX2_isEnvious_16 : decode cX2_isEnvious 16 = .ok (.iload_n 1, 1) := by decide +kernel
theorem dX2_isEnvious_17 : decode cX2_isEnvious 17 = .ok (.iaload, 1) := by decide +kernel
theorem dX2_isEnvious_18 : decode cX2_isEnvious 18 = .ok (.if_icmp .ge 7, 3) := by decide +kernel
theorem dX2_isEnvious_21 : decode cX2_isEnvious 21 = .ok (.iconst 1, 1) := by decide +kernel
theorem dX2_isEnvious_22 : decode cX2_isEnvious 22 = .ok (.goto 4, 3) := by decide +kernel
theorem dX2_isEnvious_25 : decode cX2_isEnvious 25 = .ok (.iconst 0, 1) := by decide +kernel
theorem dX2_isEnvious_26 : decode cX2_isEnvious 26 = .ok (.ireturn, 1) := by decide +kernel
theorem dX2_enviesIfSwapped_0 : decode cX2_enviesIfSwapped 0 = .ok (.iconst 0, 1) := by decide +kernel
theorem dX2_enviesIfSwapped_1 : decode cX2_enviesIfSwapped 1 = .ok (.istore_n 3, 1) := by decide +kernel
theorem dX2_enviesIfSwapped_2 : decode cX2_enviesIfSwapped 2 = .ok (.iconst 0, 1) := by decide +kernel
theorem dX2_enviesIfSwapped_3 : decode cX2_enviesIfSwapped 3 = .ok (.istore 4, 2) := by decide +kernel
theorem dX2_enviesIfSwapped_5 : decode cX2_enviesIfSwapped 5 = .ok (.iload 4, 2) := by decide +kernel
theorem dX2_enviesIfSwapped_7 : decode cX2_enviesIfSwapped 7 = .ok (.aload_n 0, 1) := by decide +kernel
theorem dX2_enviesIfSwapped_8 : decode cX2_enviesIfSwapped 8 = .ok (.getfield 18, 3) := by decide +kernel
theorem dX2_enviesIfSwapped_11 : decode cX2_enviesIfSwapped 11 = .ok (.if_icmp .ge 57, 3) := by decide +kernel
theorem dX2_enviesIfSwapped_14 : decode cX2_enviesIfSwapped 14 = .ok (.iconst 0, 1) := by decide +kernel
theorem dX2_enviesIfSwapped_15 : decode cX2_enviesIfSwapped 15 = .ok (.istore 5, 2) := by decide +kernel
theorem dX2_enviesIfSwapped_17 : decode cX2_enviesIfSwapped 17 = .ok (.iload 5, 2) := by decide +kernel
theorem dX2_enviesIfSwapped_19 : decode cX2_enviesIfSwapped 19 = .ok (.aload_n 0, 1) := by decide +kernel
theorem dX2_enviesIfSwapped_20 : decode cX2_enviesIfSwapped 20 = .ok (.getfield 18, 3) := by decide +kernel
theorem dX2_enviesIfSwapped_23 : decode cX2_enviesIfSwapped 23 = .ok (.if_icmp .ge 39, 3) := by decide +kernel
theorem dX2_enviesIfSwapped_26 : decode cX2_enviesIfSwapped 26 = .ok (.aload_n 0, 1) := by decide +kernel
theorem dX2_enviesIfSwapped_27 : decode cX2_enviesIfSwapped 27 = .ok (.iload 4, 2) := by decide +kernel
theorem dX2_enviesIfSwapped_29 : decode cX2_enviesIfSwapped 29 = .ok (.aload_n 0, 1) := by decide +kernel
theorem dX2_enviesIfSwapped_30 : decode cX2_enviesIfSwapped 30 = .ok (.iload 4, 2) := by decide +kernel
theorem dX2_enviesIfSwapped_32 : decode cX2_enviesIfSwapped 32 = .ok (.iload_n 1, 1) := by decide +kernel
theorem dX2_enviesIfSwapped_33 : decode cX2_enviesIfSwapped 33 = .ok (.iload_n 2, 1) := by decide +kernel
theorem dX2_enviesIfSwapped_34 : decode cX2_enviesIfSwapped 34 = .ok (.invokevirtual 136, 3) := by decide +kernel
theorem dX2_enviesIfSwapped_37 : decode cX2_enviesIfSwapped 37 = .ok (.iload 5, 2) := by decide +kernel
theorem dX2_enviesIfSwapped_39 : decode cX2_enviesIfSwapped 39 = .ok (.aload_n 0, 1) := by decide +kernel
theorem dX2_enviesIfSwapped_40 : decode cX2_enviesIfSwapped 40 = .ok (.iload 5, 2) := by decide +kernel
theorem dX2_enviesIfSwapped_42 : decode cX2_enviesIfSwapped 42 = .ok (.iload_n 1, 1) := by decide +kernel
theorem dX2_enviesIfSwapped_43 : decode cX2_enviesIfSwapped 43 = .ok (.iload_n 2, 1) := by decide +kernel
theorem dX2_enviesIfSwapped_44 : decode cX2_enviesIfSwapped 44 = .ok (.invokevirtual 136, 3) := by decide +kernel
theorem dX2_enviesIfSwapped_47 : decode cX2_enviesIfSwapped 47 = .ok (.invokevirtual 140, 3) := by decide +kernel
theorem dX2_enviesIfSwapped_50 : decode cX2_enviesIfSwapped 50 = .ok (.ifCond .eq 6, 3) := by decide +kernel
theorem dX2_enviesIfSwapped_53 : decode cX2_enviesIfSwapped 53 = .ok (.iinc 3 1, 3) := by decide +kernel
theorem dX2_enviesIfSwapped_56 : decode cX2_enviesIfSwapped 56 = .ok (.iinc 5 1, 3) := by decide +kernel
theorem dX2_enviesIfSwapped_59 : decode cX2_enviesIfSwapped 59 = .ok (.goto (-42), 3) := by decide +kernel
theorem dX2_enviesIfSwapped_62 : decode cX2_enviesIfSwapped 62 = .ok (.iinc 4 1, 3) := by decide +kernel
theorem dX2_enviesIfSwapped_65 : decode cX2_enviesIfSwapped 65 = .ok (.goto (-60), 3) := by decide +kernel
theorem dX2_enviesIfSwapped_68 : decode cX2_enviesIfSwapped 68 = .ok (.iload_n 3, 1) := by decide +kernel
theorem dX2_enviesIfSwapped_69 : decode cX2_enviesIfSwapped 69 = .ok (.ireturn, 1) := by decide +kernel
theorem dX2_storeyIfSwapped_0 : decode cX2_storeyIfSwapped 0 = .ok (.iload_n 1, 1) := by decide +kernel
theorem dX2_storeyIfSwapped_1 : decode cX2_storeyIfSwapped 1 = .ok (.iload_n 2, 1) := by decide +kernel
theorem dX2_storeyIfSwapped_2 : decode cX2_storeyIfSwapped 2 = .ok (.if_icmp .ne 18, 3) := by decide +kernel
theorem dX2_storeyIfSwapped_5 : decode cX2_storeyIfSwapped 5 = .ok (.aload_n 0, 1) := by decide +kernel
theorem dX2_storeyIfSwapped_6 : decode cX2_storeyIfSwapped 6 = .ok (.iload_n 3, 1) := by decide +kernel
theorem dX2_storeyIfSwapped_7 : decode cX2_storeyIfSwapped 7 = .ok (.invokevirtual 87, 3) := by decide +kernel
theorem dX2_storeyIfSwapped_10 : decode cX2_storeyIfSwapped 10 = .ok (.ifCond .eq 10, 3) := by decide +kernel
theorem dX2_storeyIfSwapped_13 : decode cX2_storeyIfSwapped 13 = .ok (.aload_n 0, 1) := by decide +kernel
theorem dX2_storeyIfSwapped_14 : decode cX2_storeyIfSwapped 14 = .ok (.getfield 21, 3) := by decide +kernel
theorem dX2_storeyIfSwapped_17 : decode cX2_storeyIfSwapped 17 = .ok (.iload_n 3, 1) := by decide +kernel
theorem dX2_storeyIfSwapped_18 : decode cX2_storeyIfSwapped 18 = .ok (.iaload, 1) := by decide +kernel
theorem dX2_storeyIfSwapped_19 : decode cX2_storeyIfSwapped 19 = .ok (.ireturn, 1) := by decide +kernel
theorem dX2_storeyIfSwapped_20 : decode cX2_storeyIfSwapped 20 = .ok (.iload_n 1, 1) := by decide +kernel
theorem dX2_storeyIfSwapped_21 : decode cX2_storeyIfSwapped 21 = .ok (.iload_n 3, 1) := by decide +kernel
theorem dX2_storeyIfSwapped_22 : decode cX2_storeyIfSwapped 22 = .ok (.if_icmp .ne 18, 3) := by decide +kernel
theorem dX2_storeyIfSwapped_25 : decode cX2_storeyIfSwapped 25 = .ok (.aload_n 0, 1) := by decide +kernel
theorem dX2_storeyIfSwapped_26 : decode cX2_storeyIfSwapped 26 = .ok (.iload_n 2, 1) := by decide +kernel
theorem dX2_storeyIfSwapped_27 : decode cX2_storeyIfSwapped 27 = .ok (.invokevirtual 87, 3) := by decide +kernel
theorem dX2_storeyIfSwapped_30 : decode cX2_storeyIfSwapped 30 = .ok (.ifCond .eq 10, 3) := by decide +kernel
theorem dX2_storeyIfSwapped_33 : decode cX2_storeyIfSwapped 33 = .ok (.aload_n 0, 1) := by decide +kernel
theorem dX2_storeyIfSwapped_34 : decode cX2_storeyIfSwapped 34 = .ok (.getfield 21, 3) := by decide +kernel
theorem dX2_storeyIfSwapped_37 : decode cX2_storeyIfSwapped 37 = .ok (.iload_n 2, 1) := by decide +kernel
theorem dX2_storeyIfSwapped_38 : decode cX2_storeyIfSwapped 38 = .ok (.iaload, 1) := by decide +kernel
theorem dX2_storeyIfSwapped_39 : decode cX2_storeyIfSwapped 39 = .ok (.ireturn, 1) := by decide +kernel
theorem dX2_storeyIfSwapped_40 : decode cX2_storeyIfSwapped 40 = .ok (.aload_n 0, 1) := by decide +kernel
theorem dX2_storeyIfSwapped_41 : decode cX2_storeyIfSwapped 41 = .ok (.getfield 21, 3) := by decide +kernel
theorem dX2_storeyIfSwapped_44 : decode cX2_storeyIfSwapped 44 = .ok (.iload_n 1, 1) := by decide +kernel
theorem dX2_storeyIfSwapped_45 : decode cX2_storeyIfSwapped 45 = .ok (.iaload, 1) := by decide +kernel
theorem dX2_storeyIfSwapped_46 : decode cX2_storeyIfSwapped 46 = .ok (.ireturn, 1) := by decide +kernel
theorem dX3_init_0 : decode cX3_init 0 = .ok (.aload_n 0, 1) := by decide +kernel
theorem dX3_init_1 : decode cX3_init 1 = .ok (.invokespecial 3, 3) := by decide +kernel
theorem dX3_init_4 : decode cX3_init 4 = .ok (.aload_n 0, 1) := by decide +kernel
theorem dX3_init_5 : decode cX3_init 5 = .ok (.sipush 1148, 3) := by decide +kernel
theorem dX3_init_8 : decode cX3_init 8 = .ok (.newarray .int, 2) := by decide +kernel
theorem dX3_init_10 : decode cX3_init 10 = .ok (.putfield 11, 3) := by decide +kernel
theorem dX3_init_13 : decode cX3_init 13 = .ok (.aload_n 0, 1) := by decide +kernel
theorem dX3_init_14 : decode cX3_init 14 = .ok (.iconst 0, 1) := by decide +kernel
theorem dX3_init_15 : decode cX3_init 15 = .ok (.putfield 15, 3) := by decide +kernel
theorem dX3_init_18 : decode cX3_init 18 = .ok (.aload_n 0, 1) := by decide +kernel
theorem dX3_init_19 : decode cX3_init 19 = .ok (.iconst 0, 1) := by decide +kernel
theorem dX3_init_20 : decode cX3_init 20 = .ok (.putfield 19, 3) := by decide +kernel
theorem dX3_init_23 : decode cX3_init 23 = .ok (.aload_n 0, 1) := by decide +kernel
theorem dX3_init_24 : decode cX3_init 24 = .ok (.iconst 0, 1) := by decide +kernel
theorem dX3_init_25 : decode cX3_init 25 = .ok (.putfield 22, 3) := by decide +kernel
theorem dX3_init_28 : decode cX3_init 28 = .ok (.aload_n 0, 1) := by decide +kernel
theorem dX3_init_29 : decode cX3_init 29 = .ok (.bipush 84, 2) := by decide +kernel
theorem dX3_init_31 : decode cX3_init 31 = .ok (.newarray .int, 2) := by decide +kernel
theorem dX3_init_33 : decode cX3_init 33 = .ok (.putfield 25, 3) := by decide +kernel
theorem dX3_init_36 : decode cX3_init 36 = .ok (.aload_n 0, 1) := by decide +kernel
theorem dX3_init_37 : decode cX3_init 37 = .ok (.iconst 3, 1) := by decide +kernel
theorem dX3_init_38 : decode cX3_init 38 = .ok (.newarray .boolean, 2) := by decide +kernel
theorem dX3_init_40 : decode cX3_init 40 = .ok (.putfield 28, 3) := by decide +kernel
theorem dX3_init_43 : decode cX3_init 43 = .ok (.return_, 1) := by decide +kernel
theorem dX3_restart_0 : decode cX3_restart 0 = .ok (.aload_n 0, 1) := by decide +kernel
theorem dX3_restart_1 : decode cX3_restart 1 = .ok (.iconst 0, 1) := by decide +kernel
theorem dX3_restart_2 : decode cX3_restart 2 = .ok (.putfield 15, 3) := by decide +kernel
theorem dX3_restart_5 : decode cX3_restart 5 = .ok (.aload_n 0, 1) := by decide +kernel
theorem dX3_restart_6 : decode cX3_restart 6 = .ok (.iconst 0, 1) := by decide +kernel
theorem dX3_restart_7 : decode cX3_restart 7 = .ok (.putfield 19, 3) := by decide +kernel
theorem dX3_restart_10 : decode cX3_restart 10 = .ok (.aload_n 0, 1) := by decide +kernel
theorem dX3_restart_11 : decode cX3_restart 11 = .ok (.iconst 0, 1) := by decide +kernel
theorem dX3_restart_12 : decode cX3_restart 12 = .ok (.putfield 22, 3) := by decide +kernel
theorem dX3_restart_15 : decode cX3_restart 15 = .ok (.aload_n 1, 1) := by decide +kernel
theorem dX3_restart_16 : decode cX3_restart 16 = .ok (.aload_n 0, 1) := by decide +kernel
theorem dX3_restart_17 : decode cX3_restart 17 = .ok (.getfield 11, 3) := by decide +kernel
theorem dX3_restart_20 : decode cX3_restart 20 = .ok (.aload_n 0, 1) := by decide +kernel
theorem dX3_restart_21 : decode cX3_restart 21 = .ok (.iconst 0, 1) := by decide +kernel
theorem dX3_restart_22 : decode cX3_restart 22 = .ok (.invokevirtual 32, 3) := by decide +kernel
theorem dX3_restart_25 : decode cX3_restart 25 = .ok (.invokevirtual 36, 3) := by decide +kernel
theorem dX3_restart_28 : decode cX3_restart 28 = .ok (.return_, 1) := by decide +kernel
theorem dX3_slotOf_0 : decode cX3_slotOf 0 = .ok (.aload_n 0, 1) := by decide +kernel
theorem dX3_slotOf_1 : decode cX3_slotOf 1 = .ok (.getfield 15, 3) := by decide +kernel
theorem dX3_slotOf_4 : decode cX3_slotOf 4 = .ok (.iload_n 1, 1) := by decide +kernel
theorem dX3_slotOf_5 : decode cX3_slotOf 5 = .ok (.iadd, 1) := by decide +kernel
theorem dX3_slotOf_6 : decode cX3_slotOf 6 = .ok (.bipush 41, 2) := by decide +kernel
theorem dX3_slotOf_8 : decode cX3_slotOf 8 = .ok (.irem, 1) := by decide +kernel
theorem dX3_slotOf_9 : decode cX3_slotOf 9 = .ok (.ireturn, 1) := by decide +kernel
theorem dX3_keepAct_0 : decode cX3_keepAct 0 = .ok (.aload_n 0, 1) := by decide +kernel
theorem dX3_keepAct_1 : decode cX3_keepAct 1 = .ok (.iconst 0, 1) := by decide +kernel
theorem dX3_keepAct_2 : decode cX3_keepAct 2 = .ok (.putfield 22, 3) := by decide +kernel
theorem dX3_keepAct_5 : decode cX3_keepAct 5 = .ok (.aload_n 0, 1) := by decide +kernel
theorem dX3_keepAct_6 : decode cX3_keepAct 6 = .ok (.getfield 19, 3) := by decide +kernel
theorem dX3_keepAct_9 : decode cX3_keepAct 9 = .ok (.bipush 40, 2) := by decide +kernel
theorem dX3_keepAct_11 : decode cX3_keepAct 11 = .ok (.if_icmp .ge 16, 3) := by decide +kernel
theorem dX3_keepAct_14 : decode cX3_keepAct 14 = .ok (.aload_n 0, 1) := by decide +kernel
theorem dX3_keepAct_15 : decode cX3_keepAct 15 = .ok (.dup, 1) := by decide +kernel
theorem dX3_keepAct_16 : decode cX3_keepAct 16 = .ok (.getfield 19, 3) := by decide +kernel
theorem dX3_keepAct_19 : decode cX3_keepAct 19 = .ok (.iconst 1, 1) := by decide +kernel
theorem dX3_keepAct_20 : decode cX3_keepAct 20 = .ok (.iadd, 1) := by decide +kernel
theorem dX3_keepAct_21 : decode cX3_keepAct 21 = .ok (.putfield 19, 3) := by decide +kernel
theorem dX3_keepAct_24 : decode cX3_keepAct 24 = .ok (.goto 12, 3) := by decide +kernel
theorem dX3_keepAct_27 : decode cX3_keepAct 27 = .ok (.aload_n 0, 1) := by decide +kernel
theorem dX3_keepAct_28 : decode cX3_keepAct 28 = .ok (.aload_n 0, 1) := by decide +kernel
theorem dX3_keepAct_29 : decode cX3_keepAct 29 = .ok (.iconst 1, 1) := by decide +kernel
theorem dX3_keepAct_30 : decode cX3_keepAct 30 = .ok (.invokevirtual 32, 3) := by decide +kernel
theorem dX3_keepAct_33 : decode cX3_keepAct 33 = .ok (.putfield 15, 3) := by decide +kernel
theorem dX3_keepAct_36 : decode cX3_keepAct 36 = .ok (.aload_n 1, 1) := by decide +kernel
theorem dX3_keepAct_37 : decode cX3_keepAct 37 = .ok (.aload_n 0, 1) := by decide +kernel
theorem dX3_keepAct_38 : decode cX3_keepAct 38 = .ok (.getfield 11, 3) := by decide +kernel
theorem dX3_keepAct_41 : decode cX3_keepAct 41 = .ok (.aload_n 0, 1) := by decide +kernel
theorem dX3_keepAct_42 : decode cX3_keepAct 42 = .ok (.aload_n 0, 1) := by decide +kernel
theorem dX3_keepAct_43 : decode cX3_keepAct 43 = .ok (.getfield 19, 3) := by decide +kernel
theorem dX3_keepAct_46 : decode cX3_keepAct 46 = .ok (.invokevirtual 32, 3) := by decide +kernel
theorem dX3_keepAct_49 : decode cX3_keepAct 49 = .ok (.invokevirtual 36, 3) := by decide +kernel
theorem dX3_keepAct_52 : decode cX3_keepAct 52 = .ok (.return_, 1) := by decide +kernel
theorem dX3_takeBack_0 : decode cX3_takeBack 0 = .ok (.aload_n 0, 1) := by decide +kernel
theorem dX3_takeBack_1 : decode cX3_takeBack 1 = .ok (.getfield 19, 3) := by decide +kernel
theorem dX3_takeBack_4 : decode cX3_takeBack 4 = .ok (.ifCond .ne 5, 3) := by decide +kernel
theorem dX3_takeBack_7 : decode cX3_takeBack 7 = .ok (.iconst 0, 1) := by decide +kernel
theorem dX3_takeBack_8 : decode cX3_takeBack 8 = .ok (.ireturn, 1) := by decide +kernel
theorem dX3_takeBack_9 : decode cX3_takeBack 9 = .ok (.aload_n 0, 1) := by decide +kernel
theorem dX3_takeBack_10 : decode cX3_takeBack 10 = .ok (.dup, 1) := by decide +kernel
theorem dX3_takeBack_11 : decode cX3_takeBack 11 = .ok (.getfield 19, 3) := by decide +kernel
theorem dX3_takeBack_14 : decode cX3_takeBack 14 = .ok (.iconst 1, 1) := by decide +kernel
theorem dX3_takeBack_15 : decode cX3_takeBack 15 = .ok (.isub, 1) := by decide +kernel
theorem dX3_takeBack_16 : decode cX3_takeBack 16 = .ok (.putfield 19, 3) := by decide +kernel
theorem dX3_takeBack_19 : decode cX3_takeBack 19 = .ok (.aload_n 0, 1) := by decide +kernel
theorem dX3_takeBack_20 : decode cX3_takeBack 20 = .ok (.dup, 1) := by decide +kernel
theorem dX3_takeBack_21 : decode cX3_takeBack 21 = .ok (.getfield 22, 3) := by decide +kernel
theorem dX3_takeBack_24 : decode cX3_takeBack 24 = .ok (.iconst 1, 1) := by decide +kernel
theorem dX3_takeBack_25 : decode cX3_takeBack 25 = .ok (.iadd, 1) := by decide +kernel
theorem dX3_takeBack_26 : decode cX3_takeBack 26 = .ok (.putfield 22, 3) := by decide +kernel
theorem dX3_takeBack_29 : decode cX3_takeBack 29 = .ok (.aload_n 1, 1) := by decide +kernel
theorem dX3_takeBack_30 : decode cX3_takeBack 30 = .ok (.aload_n 0, 1) := by decide +kernel
theorem dX3_takeBack_31 : decode cX3_takeBack 31 = .ok (.getfield 11, 3) := by decide +kernel
theorem dX3_takeBack_34 : decode cX3_takeBack 34 = .ok (.aload_n 0, 1) := by decide +kernel
theorem dX3_takeBack_35 : decode cX3_takeBack 35 = .ok (.aload_n 0, 1) := by decide +kernel
theorem dX3_takeBack_36 : decode cX3_takeBack 36 = .ok (.getfield 19, 3) := by decide +kernel
theorem dX3_takeBack_39 : decode cX3_takeBack 39 = .ok (.invokevirtual 32, 3) := by decide +kernel
theorem dX3_takeBack_42 : decode cX3_takeBack 42 = .ok (.invokevirtual 40, 3) := by decide +kernel
theorem dX3_takeBack_45 : decode cX3_takeBack 45 = .ok (.iconst 1, 1) := by decide +kernel
theorem dX3_takeBack_46 : decode cX3_takeBack 46 = .ok (.ireturn, 1) := by decide +kernel
theorem dX3_doAgain_0 : decode cX3_doAgain 0 = .ok (.aload_n 0, 1) := by decide +kernel
theorem dX3_doAgain_1 : decode cX3_doAgain 1 = .ok (.getfield 22, 3) := by decide +kernel
theorem dX3_doAgain_4 : decode cX3_doAgain 4 = .ok (.ifCond .ne 5, 3) := by decide +kernel
theorem dX3_doAgain_7 : decode cX3_doAgain 7 = .ok (.iconst 0, 1) := by decide +kernel
theorem dX3_doAgain_8 : decode cX3_doAgain 8 = .ok (.ireturn, 1) := by decide +kernel
theorem dX3_doAgain_9 : decode cX3_doAgain 9 = .ok (.aload_n 0, 1) := by decide +kernel
theorem dX3_doAgain_10 : decode cX3_doAgain 10 = .ok (.dup, 1) := by decide +kernel
theorem dX3_doAgain_11 : decode cX3_doAgain 11 = .ok (.getfield 19, 3) := by decide +kernel
theorem dX3_doAgain_14 : decode cX3_doAgain 14 = .ok (.iconst 1, 1) := by decide +kernel
theorem dX3_doAgain_15 : decode cX3_doAgain 15 = .ok (.iadd, 1) := by decide +kernel
theorem dX3_doAgain_16 : decode cX3_doAgain 16 = .ok (.putfield 19, 3) := by decide +kernel
theorem dX3_doAgain_19 : decode cX3_doAgain 19 = .ok (.aload_n 0, 1) := by decide +kernel
theorem dX3_doAgain_20 : decode cX3_doAgain 20 = .ok (.dup, 1) := by decide +kernel
theorem dX3_doAgain_21 : decode cX3_doAgain 21 = .ok (.getfield 22, 3) := by decide +kernel
theorem dX3_doAgain_24 : decode cX3_doAgain 24 = .ok (.iconst 1, 1) := by decide +kernel
theorem dX3_doAgain_25 : decode cX3_doAgain 25 = .ok (.isub, 1) := by decide +kernel
theorem dX3_doAgain_26 : decode cX3_doAgain 26 = .ok (.putfield 22, 3) := by decide +kernel
theorem dX3_doAgain_29 : decode cX3_doAgain 29 = .ok (.aload_n 1, 1) := by decide +kernel
theorem dX3_doAgain_30 : decode cX3_doAgain 30 = .ok (.aload_n 0, 1) := by decide +kernel
theorem dX3_doAgain_31 : decode cX3_doAgain 31 = .ok (.getfield 11, 3) := by decide +kernel
theorem dX3_doAgain_34 : decode cX3_doAgain 34 = .ok (.aload_n 0, 1) := by decide +kernel
theorem dX3_doAgain_35 : decode cX3_doAgain 35 = .ok (.aload_n 0, 1) := by decide +kernel
theorem dX3_doAgain_36 : decode cX3_doAgain 36 = .ok (.getfield 19, 3) := by decide +kernel
theorem dX3_doAgain_39 : decode cX3_doAgain 39 = .ok (.invokevirtual 32, 3) := by decide +kernel
theorem dX3_doAgain_42 : decode cX3_doAgain 42 = .ok (.invokevirtual 40, 3) := by decide +kernel
theorem dX3_doAgain_45 : decode cX3_doAgain 45 = .ok (.iconst 1, 1) := by decide +kernel
theorem dX3_doAgain_46 : decode cX3_doAgain 46 = .ok (.ireturn, 1) := by decide +kernel
theorem dX3_clearBoxes_0 : decode cX3_clearBoxes 0 = .ok (.iconst 0, 1) := by decide +kernel
theorem dX3_clearBoxes_1 : decode cX3_clearBoxes 1 = .ok (.istore_n 1, 1) := by decide +kernel
theorem dX3_clearBoxes_2 : decode cX3_clearBoxes 2 = .ok (.iload_n 1, 1) := by decide +kernel
theorem dX3_clearBoxes_3 : decode cX3_clearBoxes 3 = .ok (.iconst 3, 1) := by decide +kernel
theorem dX3_clearBoxes_4 : decode cX3_clearBoxes 4 = .ok (.if_icmp .ge 16, 3) := by decide +kernel
theorem dX3_clearBoxes_7 : decode cX3_clearBoxes 7 = .ok (.aload_n 0, 1) := by decide +kernel
theorem dX3_clearBoxes_8 : decode cX3_clearBoxes 8 = .ok (.getfield 28, 3) := by decide +kernel
theorem dX3_clearBoxes_11 : decode cX3_clearBoxes 11 = .ok (.iload_n 1, 1) := by decide +kernel
theorem dX3_clearBoxes_12 : decode cX3_clearBoxes 12 = .ok (.iconst 0, 1) := by decide +kernel
theorem dX3_clearBoxes_13 : decode cX3_clearBoxes 13 = .ok (.bastore, 1) := by decide +kernel
theorem dX3_clearBoxes_14 : decode cX3_clearBoxes 14 = .ok (.iinc 1 1, 3) := by decide +kernel
theorem dX3_clearBoxes_17 : decode cX3_clearBoxes 17 = .ok (.goto (-15), 3) := by decide +kernel
theorem dX3_clearBoxes_20 : decode cX3_clearBoxes 20 = .ok (.return_, 1) := by decide +kernel
theorem dX3_keepInBox_0 : decode cX3_keepInBox 0 = .ok (.iload_n 1, 1) := by decide +kernel
theorem dX3_keepInBox_1 : decode cX3_keepInBox 1 = .ok (.ifCond .lt 8, 3) := by decide +kernel
theorem dX3_keepInBox_4 : decode cX3_keepInBox 4 = .ok (.iload_n 1, 1) := by decide +kernel
theorem dX3_keepInBox_5 : decode cX3_keepInBox 5 = .ok (.iconst 3, 1) := by decide +kernel
theorem dX3_keepInBox_6 : decode cX3_keepInBox 6 = .ok (.if_icmp .lt 5, 3) := by decide +kernel
theorem dX3_keepInBox_9 : decode cX3_keepInBox 9 = .ok (.iconst 0, 1) := by decide +kernel
theorem dX3_keepInBox_10 : decode cX3_keepInBox 10 = .ok (.ireturn, 1) := by decide +kernel
theorem dX3_keepInBox_11 : decode cX3_keepInBox 11 = .ok (.aload_n 2, 1) := by decide +kernel
theorem dX3_keepInBox_12 : decode cX3_keepInBox 12 = .ok (.aload_n 0, 1) := by decide +kernel
theorem dX3_keepInBox_13 : decode cX3_keepInBox 13 = .ok (.getfield 25, 3) := by decide +kernel
theorem dX3_keepInBox_16 : decode cX3_keepInBox 16 = .ok (.iload_n 1, 1) := by decide +kernel
theorem dX3_keepInBox_17 : decode cX3_keepInBox 17 = .ok (.invokevirtual 36, 3) := by decide +kernel
theorem dX3_keepInBox_20 : decode cX3_keepInBox 20 = .ok (.aload_n 0, 1) := by decide +kernel
theorem dX3_keepInBox_21 : decode cX3_keepInBox 21 = .ok (.getfield 28, 3) := by decide +kernel
theorem dX3_keepInBox_24 : decode cX3_keepInBox 24 = .ok (.iload_n 1, 1) := by decide +kernel
theorem dX3_keepInBox_25 : decode cX3_keepInBox 25 = .ok (.iconst 1, 1) := by decide +kernel
theorem dX3_keepInBox_26 : decode cX3_keepInBox 26 = .ok (.bastore, 1) := by decide +kernel
theorem dX3_keepInBox_27 : decode cX3_keepInBox 27 = .ok (.iconst 1, 1) := by decide +kernel
theorem dX3_keepInBox_28 : decode cX3_keepInBox 28 = .ok (.ireturn, 1) := by decide +kernel
theorem dX3_loadFromBox_0 : decode cX3_loadFromBox 0 = .ok (.iload_n 1, 1) := by decide +kernel
theorem dX3_loadFromBox_1 : decode cX3_loadFromBox 1 = .ok (.ifCond .lt 17, 3) := by decide +kernel
theorem dX3_loadFromBox_4 : decode cX3_loadFromBox 4 = .ok (.iload_n 1, 1) := by decide +kernel
theorem dX3_loadFromBox_5 : decode cX3_loadFromBox 5 = .ok (.iconst 3, 1) := by decide +kernel
theorem dX3_loadFromBox_6 : decode cX3_loadFromBox 6 = .ok (.if_icmp .ge 12, 3) := by decide +kernel
theorem dX3_loadFromBox_9 : decode cX3_loadFromBox 9 = .ok (.aload_n 0, 1) := by decide +kernel
theorem dX3_loadFromBox_10 : decode cX3_loadFromBox 10 = .ok (.getfield 28, 3) := by decide +kernel
theorem dX3_loadFromBox_13 : decode cX3_loadFromBox 13 = .ok (.iload_n 1, 1) := by decide +kernel
theorem dX3_loadFromBox_14 : decode cX3_loadFromBox 14 = .ok (.baload, 1) := by decide +kernel
theorem dX3_loadFromBox_15 : decode cX3_loadFromBox 15 = .ok (.ifCond .ne 5, 3) := by decide +kernel
theorem dX3_loadFromBox_18 : decode cX3_loadFromBox 18 = .ok (.iconst 0, 1) := by decide +kernel
theorem dX3_loadFromBox_19 : decode cX3_loadFromBox 19 = .ok (.ireturn, 1) := by decide +kernel
theorem dX3_loadFromBox_20 : decode cX3_loadFromBox 20 = .ok (.aload_n 2, 1) := by decide +kernel
theorem dX3_loadFromBox_21 : decode cX3_loadFromBox 21 = .ok (.aload_n 0, 1) := by decide +kernel
theorem dX3_loadFromBox_22 : decode cX3_loadFromBox 22 = .ok (.getfield 25, 3) := by decide +kernel
theorem dX3_loadFromBox_25 : decode cX3_loadFromBox 25 = .ok (.iload_n 1, 1) := by decide +kernel
theorem dX3_loadFromBox_26 : decode cX3_loadFromBox 26 = .ok (.invokevirtual 40, 3) := by decide +kernel
theorem dX3_loadFromBox_29 : decode cX3_loadFromBox 29 = .ok (.iconst 1, 1) := by decide +kernel
theorem dX3_loadFromBox_30 : decode cX3_loadFromBox 30 = .ok (.ireturn, 1) := by decide +kernel
theorem dX4_init_0 : decode cX4_init 0 = .ok (.aload_n 0, 1) := by decide +kernel
theorem dX4_init_1 : decode cX4_init 1 = .ok (.invokespecial 3, 3) := by decide +kernel
theorem dX4_init_4 : decode cX4_init 4 = .ok (.aload_n 0, 1) := by decide +kernel
theorem dX4_init_5 : decode cX4_init 5 = .ok (.bipush 8, 2) := by decide +kernel
theorem dX4_init_7 : decode cX4_init 7 = .ok (.newarray .int, 2) := by decide +kernel
theorem dX4_init_9 : decode cX4_init 9 = .ok (.putfield 9, 3) := by decide +kernel
theorem dX4_init_12 : decode cX4_init 12 = .ok (.aload_n 0, 1) := by decide +kernel
theorem dX4_init_13 : decode cX4_init 13 = .ok (.bipush 8, 2) := by decide +kernel
theorem dX4_init_15 : decode cX4_init 15 = .ok (.newarray .boolean, 2) := by decide +kernel
theorem dX4_init_17 : decode cX4_init 17 = .ok (.putfield 15, 3) := by decide +kernel
theorem dX4_init_20 : decode cX4_init 20 = .ok (.aload_n 0, 1) := by decide +kernel
theorem dX4_init_21 : decode cX4_init 21 = .ok (.bipush 8, 2) := by decide +kernel
theorem dX4_init_23 : decode cX4_init 23 = .ok (.newarray .int, 2) := by decide +kernel
theorem dX4_init_25 : decode cX4_init 25 = .ok (.putfield 19, 3) := by decide +kernel
theorem dX4_init_28 : decode cX4_init 28 = .ok (.aload_n 0, 1) := by decide +kernel
theorem dX4_init_29 : decode cX4_init 29 = .ok (.bipush 8, 2) := by decide +kernel
theorem dX4_init_31 : decode cX4_init 31 = .ok (.newarray .int, 2) := by decide +kernel
theorem dX4_init_33 : decode cX4_init 33 = .ok (.putfield 22, 3) := by decide +kernel
theorem dX4_init_36 : decode cX4_init 36 = .ok (.return_, 1) := by decide +kernel
theorem dX4_leastDifference_0 : decode cX4_leastDifference 0 = .ok (.aload_n 0, 1) := by decide +kernel
theorem dX4_leastDifference_1 : decode cX4_leastDifference 1 = .ok (.aload_n 1, 1) := by decide +kernel
theorem dX4_leastDifference_2 : decode cX4_leastDifference 2 = .ok (.invokevirtual 25, 3) := by decide +kernel
theorem dX4_leastDifference_5 : decode cX4_leastDifference 5 = .ok (.aload_n 0, 1) := by decide +kernel
theorem dX4_leastDifference_6 : decode cX4_leastDifference 6 = .ok (.aload_n 1, 1) := by decide +kernel
theorem dX4_leastDifference_7 : decode cX4_leastDifference 7 = .ok (.invokevirtual 29, 3) := by decide +kernel
theorem dX4_leastDifference_10 : decode cX4_leastDifference 10 = .ok (.aload_n 0, 1) := by decide +kernel
theorem dX4_leastDifference_11 : decode cX4_leastDifference 11 = .ok (.aload_n 1, 1) := by decide +kernel
theorem dX4_leastDifference_12 : decode cX4_leastDifference 12 = .ok (.iconst 0, 1) := by decide +kernel
theorem dX4_leastDifference_13 : decode cX4_leastDifference 13 = .ok (.invokevirtual 32, 3) := by decide +kernel
theorem dX4_leastDifference_16 : decode cX4_leastDifference 16 = .ok (.istore_n 3, 1) := by decide +kernel
theorem dX4_leastDifference_17 : decode cX4_leastDifference 17 = .ok (.iconst 0, 1) := by decide +kernel
theorem dX4_leastDifference_18 : decode cX4_leastDifference 18 = .ok (.istore 4, 2) := by decide +kernel
theorem dX4_leastDifference_20 : decode cX4_leastDifference 20 = .ok (.iload 4, 2) := by decide +kernel
theorem dX4_leastDifference_22 : decode cX4_leastDifference 22 = .ok (.aload_n 1, 1) := by decide +kernel
theorem dX4_leastDifference_23 : decode cX4_leastDifference 23 = .ok (.getfield 36, 3) := by decide +kernel
theorem dX4_leastDifference_26 : decode cX4_leastDifference 26 = .ok (.if_icmp .ge 28, 3) := by decide +kernel
theorem dX4_leastDifference_29 : decode cX4_leastDifference 29 = .ok (.aload_n 0, 1) := by decide +kernel
theorem dX4_leastDifference_30 : decode cX4_leastDifference 30 = .ok (.aload_n 1, 1) := by decide +kernel
theorem dX4_leastDifference_31 : decode cX4_leastDifference 31 = .ok (.iload 4, 2) := by decide +kernel
theorem dX4_leastDifference_33 : decode cX4_leastDifference 33 = .ok (.iload_n 3, 1) := by decide +kernel
theorem dX4_leastDifference_34 : decode cX4_leastDifference 34 = .ok (.invokevirtual 42, 3) := by decide +kernel
theorem dX4_leastDifference_37 : decode cX4_leastDifference 37 = .ok (.aload_n 2, 1) := by decide +kernel
theorem dX4_leastDifference_38 : decode cX4_leastDifference 38 = .ok (.aload_n 0, 1) := by decide +kernel
theorem dX4_leastDifference_39 : decode cX4_leastDifference 39 = .ok (.getfield 22, 3) := by decide +kernel
theorem dX4_leastDifference_42 : decode cX4_leastDifference 42 = .ok (.iload 4, 2) := by decide +kernel
theorem dX4_leastDifference_44 : decode cX4_leastDifference 44 = .ok (.iaload, 1) := by decide +kernel
theorem dX4_leastDifference_45 : decode cX4_leastDifference 45 = .ok (.invokevirtual 46, 3) := by decide +kernel
theorem dX4_leastDifference_48 : decode cX4_leastDifference 48 = .ok (.iinc 4 1, 3) := by decide +kernel
theorem dX4_leastDifference_51 : decode cX4_leastDifference 51 = .ok (.goto (-31), 3) := by decide +kernel
theorem dX4_leastDifference_54 : decode cX4_leastDifference 54 = .ok (.iload_n 3, 1) := by decide +kernel
theorem dX4_leastDifference_55 : decode cX4_leastDifference 55 = .ok (.ireturn, 1) := by decide +kernel
theorem dX4_sortStoreys_0 : decode cX4_sortStoreys 0 = .ok (.iconst 0, 1) := by decide +kernel
theorem dX4_sortStoreys_1 : decode cX4_sortStoreys 1 = .ok (.istore_n 2, 1) := by decide +kernel
theorem dX4_sortStoreys_2 : decode cX4_sortStoreys 2 = .ok (.iload_n 2, 1) := by decide +kernel
theorem dX4_sortStoreys_3 : decode cX4_sortStoreys 3 = .ok (.aload_n 1, 1) := by decide +kernel
theorem dX4_sortStoreys_4 : decode cX4_sortStoreys 4 = .ok (.getfield 36, 3) := by decide +kernel
theorem dX4_sortStoreys_7 : decode cX4_sortStoreys 7 = .ok (.if_icmp .ge 71, 3) := by decide +kernel
theorem dX4_sortStoreys_10 : decode cX4_sortStoreys 10 = .ok (.iload_n 2, 1) := by decide +kernel
theorem dX4_sortStoreys_11 : decode cX4_sortStoreys 11 = .ok (.istore_n 3, 1) := by decide +kernel
theorem dX4_sortStoreys_12 : decode cX4_sortStoreys 12 = .ok (.iload_n 3, 1) := by decide +kernel
theorem dX4_sortStoreys_13 : decode cX4_sortStoreys 13 = .ok (.ifCond .le 40, 3) := by decide +kernel
theorem dX4_sortStoreys_16 : decode cX4_sortStoreys 16 = .ok (.aload_n 0, 1) := by decide +kernel
theorem dX4_sortStoreys_17 : decode cX4_sortStoreys 17 = .ok (.getfield 9, 3) := by decide +kernel
theorem dX4_sortStoreys_20 : decode cX4_sortStoreys 20 = .ok (.iload_n 3, 1) := by decide +kernel
theorem dX4_sortStoreys_21 : decode cX4_sortStoreys 21 = .ok (.iconst 1, 1) := by decide +kernel
theorem dX4_sortStoreys_22 : decode cX4_sortStoreys 22 = .ok (.isub, 1) := by decide +kernel
theorem dX4_sortStoreys_23 : decode cX4_sortStoreys 23 = .ok (.iaload, 1) := by decide +kernel
theorem dX4_sortStoreys_24 : decode cX4_sortStoreys 24 = .ok (.aload_n 1, 1) := by decide +kernel
theorem dX4_sortStoreys_25 : decode cX4_sortStoreys 25 = .ok (.getfield 52, 3) := by decide +kernel
theorem dX4_sortStoreys_28 : decode cX4_sortStoreys 28 = .ok (.iload_n 2, 1) := by decide +kernel
theorem dX4_sortStoreys_29 : decode cX4_sortStoreys 29 = .ok (.iaload, 1) := by decide +kernel
theorem dX4_sortStoreys_30 : decode cX4_sortStoreys 30 = .ok (.if_icmp .le 23, 3) := by decide +kernel
theorem dX4_sortStoreys_33 : decode cX4_sortStoreys 33 = .ok (.aload_n 0, 1) := by decide +kernel
theorem dX4_sortStoreys_34 : decode cX4_sortStoreys 34 = .ok (.getfield 9, 3) := by decide +kernel
theorem dX4_sortStoreys_37 : decode cX4_sortStoreys 37 = .ok (.iload_n 3, 1) := by decide +kernel
theorem dX4_sortStoreys_38 : decode cX4_sortStoreys 38 = .ok (.aload_n 0, 1) := by decide +kernel
theorem dX4_sortStoreys_39 : decode cX4_sortStoreys 39 = .ok (.getfield 9, 3) := by decide +kernel
theorem dX4_sortStoreys_42 : decode cX4_sortStoreys 42 = .ok (.iload_n 3, 1) := by decide +kernel
theorem dX4_sortStoreys_43 : decode cX4_sortStoreys 43 = .ok (.iconst 1, 1) := by decide +kernel
theorem dX4_sortStoreys_44 : decode cX4_sortStoreys 44 = .ok (.isub, 1) := by decide +kernel
theorem dX4_sortStoreys_45 : decode cX4_sortStoreys 45 = .ok (.iaload, 1) := by decide +kernel
theorem dX4_sortStoreys_46 : decode cX4_sortStoreys 46 = .ok (.iastore, 1) := by decide +kernel
theorem dX4_sortStoreys_47 : decode cX4_sortStoreys 47 = .ok (.iinc 3 (-1), 3) := by decide +kernel
theorem dX4_sortStoreys_50 : decode cX4_sortStoreys 50 = .ok (.goto (-38), 3) := by decide +kernel
theorem dX4_sortStoreys_53 : decode cX4_sortStoreys 53 = .ok (.aload_n 0, 1) := by decide +kernel
theorem dX4_sortStoreys_54 : decode cX4_sortStoreys 54 = .ok (.getfield 9, 3) := by decide +kernel
theorem dX4_sortStoreys_57 : decode cX4_sortStoreys 57 = .ok (.iload_n 3, 1) := by decide +kernel
theorem dX4_sortStoreys_58 : decode cX4_sortStoreys 58 = .ok (.aload_n 1, 1) := by decide +kernel
theorem dX4_sortStoreys_59 : decode cX4_sortStoreys 59 = .ok (.getfield 52, 3) := by decide +kernel
theorem dX4_sortStoreys_62 : decode cX4_sortStoreys 62 = .ok (.iload_n 2, 1) := by decide +kernel
theorem dX4_sortStoreys_63 : decode cX4_sortStoreys 63 = .ok (.iaload, 1) := by decide +kernel
theorem dX4_sortStoreys_64 : decode cX4_sortStoreys 64 = .ok (.iastore, 1) := by decide +kernel
theorem dX4_sortStoreys_65 : decode cX4_sortStoreys 65 = .ok (.aload_n 0, 1) := by decide +kernel
theorem dX4_sortStoreys_66 : decode cX4_sortStoreys 66 = .ok (.getfield 15, 3) := by decide +kernel
theorem dX4_sortStoreys_69 : decode cX4_sortStoreys 69 = .ok (.iload_n 2, 1) := by decide +kernel
theorem dX4_sortStoreys_70 : decode cX4_sortStoreys 70 = .ok (.iconst 0, 1) := by decide +kernel
theorem dX4_sortStoreys_71 : decode cX4_sortStoreys 71 = .ok (.bastore, 1) := by decide +kernel
theorem dX4_sortStoreys_72 : decode cX4_sortStoreys 72 = .ok (.iinc 2 1, 3) := by decide +kernel
theorem dX4_sortStoreys_75 : decode cX4_sortStoreys 75 = .ok (.goto (-73), 3) := by decide +kernel
theorem dX4_sortStoreys_78 : decode cX4_sortStoreys 78 = .ok (.return_, 1) := by decide +kernel
theorem dX4_sortTenants_0 : decode cX4_sortTenants 0 = .ok (.iconst 0, 1) := by decide +kernel
theorem dX4_sortTenants_1 : decode cX4_sortTenants 1 = .ok (.istore_n 2, 1) := by decide +kernel
theorem dX4_sortTenants_2 : decode cX4_sortTenants 2 = .ok (.iload_n 2, 1) := by decide +kernel
theorem dX4_sortTenants_3 : decode cX4_sortTenants 3 = .ok (.aload_n 1, 1) := by decide +kernel
theorem dX4_sortTenants_4 : decode cX4_sortTenants 4 = .ok (.getfield 36, 3) := by decide +kernel
theorem dX4_sortTenants_7 : decode cX4_sortTenants 7 = .ok (.if_icmp .ge 64, 3) := by decide +kernel
theorem dX4_sortTenants_10 : decode cX4_sortTenants 10 = .ok (.iload_n 2, 1) := by decide +kernel
theorem dX4_sortTenants_11 : decode cX4_sortTenants 11 = .ok (.istore_n 3, 1) := by decide +kernel
theorem dX4_sortTenants_12 : decode cX4_sortTenants 12 = .ok (.iload_n 3, 1) := by decide +kernel
theorem dX4_sortTenants_13 : decode cX4_sortTenants 13 = .ok (.ifCond .le 45, 3) := by decide +kernel
theorem dX4_sortTenants_16 : decode cX4_sortTenants 16 = .ok (.aload_n 1, 1) := by decide +kernel
theorem dX4_sortTenants_17 : decode cX4_sortTenants 17 = .ok (.getfield 55, 3) := by decide +kernel
theorem dX4_sortTenants_20 : decode cX4_sortTenants 20 = .ok (.aload_n 0, 1) := by decide +kernel
theorem dX4_sortTenants_21 : decode cX4_sortTenants 21 = .ok (.getfield 19, 3) := by decide +kernel
theorem dX4_sortTenants_24 : decode cX4_sortTenants 24 = .ok (.iload_n 3, 1) := by decide +kernel
theorem dX4_sortTenants_25 : decode cX4_sortTenants 25 = .ok (.iconst 1, 1) := by decide +kernel
theorem dX4_sortTenants_26 : decode cX4_sortTenants 26 = .ok (.isub, 1) := by decide +kernel
theorem dX4_sortTenants_27 : decode cX4_sortTenants 27 = .ok (.iaload, 1) := by decide +kernel
theorem dX4_sortTenants_28 : decode cX4_sortTenants 28 = .ok (.iaload, 1) := by decide +kernel
theorem dX4_sortTenants_29 : decode cX4_sortTenants 29 = .ok (.aload_n 1, 1) := by decide +kernel
theorem dX4_sortTenants_30 : decode cX4_sortTenants 30 = .ok (.getfield 55, 3) := by decide +kernel
theorem dX4_sortTenants_33 : decode cX4_sortTenants 33 = .ok (.iload_n 2, 1) := by decide +kernel
theorem dX4_sortTenants_34 : decode cX4_sortTenants 34 = .ok (.iaload, 1) := by decide +kernel
theorem dX4_sortTenants_35 : decode cX4_sortTenants 35 = .ok (.if_icmp .ge 23, 3) := by decide +kernel
theorem dX4_sortTenants_38 : decode cX4_sortTenants 38 = .ok (.aload_n 0, 1) := by decide +kernel
theorem dX4_sortTenants_39 : decode cX4_sortTenants 39 = .ok (.getfield 19, 3) := by decide +kernel
theorem dX4_sortTenants_42 : decode cX4_sortTenants 42 = .ok (.iload_n 3, 1) := by decide +kernel
theorem dX4_sortTenants_43 : decode cX4_sortTenants 43 = .ok (.aload_n 0, 1) := by decide +kernel
theorem dX4_sortTenants_44 : decode cX4_sortTenants 44 = .ok (.getfield 19, 3) := by decide +kernel
theorem dX4_sortTenants_47 : decode cX4_sortTenants 47 = .ok (.iload_n 3, 1) := by decide +kernel
theorem dX4_sortTenants_48 : decode cX4_sortTenants 48 = .ok (.iconst 1, 1) := by decide +kernel
theorem dX4_sortTenants_49 : decode cX4_sortTenants 49 = .ok (.isub, 1) := by decide +kernel
theorem dX4_sortTenants_50 : decode cX4_sortTenants 50 = .ok (.iaload, 1) := by decide +kernel
theorem dX4_sortTenants_51 : decode cX4_sortTenants 51 = .ok (.iastore, 1) := by decide +kernel
theorem dX4_sortTenants_52 : decode cX4_sortTenants 52 = .ok (.iinc 3 (-1), 3) := by decide +kernel
theorem dX4_sortTenants_55 : decode cX4_sortTenants 55 = .ok (.goto (-43), 3) := by decide +kernel
theorem dX4_sortTenants_58 : decode cX4_sortTenants 58 = .ok (.aload_n 0, 1) := by decide +kernel
theorem dX4_sortTenants_59 : decode cX4_sortTenants 59 = .ok (.getfield 19, 3) := by decide +kernel
theorem dX4_sortTenants_62 : decode cX4_sortTenants 62 = .ok (.iload_n 3, 1) := by decide +kernel
theorem dX4_sortTenants_63 : decode cX4_sortTenants 63 = .ok (.iload_n 2, 1) := by decide +kernel
theorem dX4_sortTenants_64 : decode cX4_sortTenants 64 = .ok (.iastore, 1) := by decide +kernel
theorem dX4_sortTenants_65 : decode cX4_sortTenants 65 = .ok (.iinc 2 1, 3) := by decide +kernel
theorem dX4_sortTenants_68 : decode cX4_sortTenants 68 = .ok (.goto (-66), 3) := by decide +kernel
theorem dX4_sortTenants_71 : decode cX4_sortTenants 71 = .ok (.return_, 1) := by decide +kernel
theorem dX4_settleLowest_0 : decode cX4_settleLowest 0 = .ok (.iconst 0, 1) := by decide +kernel
theorem dX4_settleLowest_1 : decode cX4_settleLowest 1 = .ok (.istore 4, 2) := by decide +kernel
theorem dX4_settleLowest_3 : decode cX4_settleLowest 3 = .ok (.iload 4, 2) := by decide +kernel
theorem dX4_settleLowest_5 : decode cX4_settleLowest 5 = .ok (.aload_n 1, 1) := by decide +kernel
theorem dX4_settleLowest_6 : decode cX4_settleLowest 6 = .ok (.getfield 36, 3) := by decide +kernel
theorem dX4_settleLowest_9 : decode cX4_settleLowest 9 = .ok (.if_icmp .ge 61, 3) := by decide +kernel
theorem dX4_settleLowest_12 : decode cX4_settleLowest 12 = .ok (.aload_n 0, 1) := by decide +kernel
theorem dX4_settleLowest_13 : decode cX4_settleLowest 13 = .ok (.getfield 15, 3) := by decide +kernel
theorem dX4_settleLowest_16 : decode cX4_settleLowest 16 = .ok (.iload 4, 2) := by decide +kernel
theorem dX4_settleLowest_18 : decode cX4_settleLowest 18 = .ok (.baload, 1) := by decide +kernel
theorem dX4_settleLowest_19 : decode cX4_settleLowest 19 = .ok (.ifCond .ne 45, 3) := by decide +kernel
theorem dX4_settleLowest_22 : decode cX4_settleLowest 22 = .ok (.aload_n 0, 1) := by decide +kernel
theorem dX4_settleLowest_23 : decode cX4_settleLowest 23 = .ok (.getfield 15, 3) := by decide +kernel
theorem dX4_settleLowest_26 : decode cX4_settleLowest 26 = .ok (.iload 4, 2) := by decide +kernel
theorem dX4_settleLowest_28 : decode cX4_settleLowest 28 = .ok (.iconst 1, 1) := by decide +kernel
theorem dX4_settleLowest_29 : decode cX4_settleLowest 29 = .ok (.bastore, 1) := by decide +kernel
theorem dX4_settleLowest_30 : decode cX4_settleLowest 30 = .ok (.aload_n 0, 1) := by decide +kernel
theorem dX4_settleLowest_31 : decode cX4_settleLowest 31 = .ok (.getfield 22, 3) := by decide +kernel
theorem dX4_settleLowest_34 : decode cX4_settleLowest 34 = .ok (.iload_n 2, 1) := by decide +kernel
theorem dX4_settleLowest_35 : decode cX4_settleLowest 35 = .ok (.aload_n 0, 1) := by decide +kernel
theorem dX4_settleLowest_36 : decode cX4_settleLowest 36 = .ok (.getfield 9, 3) := by decide +kernel
theorem dX4_settleLowest_39 : decode cX4_settleLowest 39 = .ok (.iload 4, 2) := by decide +kernel
theorem dX4_settleLowest_41 : decode cX4_settleLowest 41 = .ok (.iaload, 1) := by decide +kernel
theorem dX4_settleLowest_42 : decode cX4_settleLowest 42 = .ok (.iastore, 1) := by decide +kernel
theorem dX4_settleLowest_43 : decode cX4_settleLowest 43 = .ok (.aload_n 0, 1) := by decide +kernel
theorem dX4_settleLowest_44 : decode cX4_settleLowest 44 = .ok (.aload_n 1, 1) := by decide +kernel
theorem dX4_settleLowest_45 : decode cX4_settleLowest 45 = .ok (.iload_n 2, 1) := by decide +kernel
theorem dX4_settleLowest_46 : decode cX4_settleLowest 46 = .ok (.iconst 1, 1) := by decide +kernel
theorem dX4_settleLowest_47 : decode cX4_settleLowest 47 = .ok (.iadd, 1) := by decide +kernel
theorem dX4_settleLowest_48 : decode cX4_settleLowest 48 = .ok (.invokevirtual 32, 3) := by decide +kernel
theorem dX4_settleLowest_51 : decode cX4_settleLowest 51 = .ok (.iload_n 3, 1) := by decide +kernel
theorem dX4_settleLowest_52 : decode cX4_settleLowest 52 = .ok (.if_icmp .gt 4, 3) := by decide +kernel
theorem dX4_settleLowest_55 : decode cX4_settleLowest 55 = .ok (.return_, 1) := by decide +kernel
theorem dX4_settleLowest_56 : decode cX4_settleLowest 56 = .ok (.aload_n 0, 1) := by decide +kernel
theorem dX4_settleLowest_57 : decode cX4_settleLowest 57 = .ok (.getfield 15, 3) := by decide +kernel
theorem dX4_settleLowest_60 : decode cX4_settleLowest 60 = .ok (.iload 4, 2) := by decide +kernel
theorem dX4_settleLowest_62 : decode cX4_settleLowest 62 = .ok (.iconst 0, 1) := by decide +kernel
theorem dX4_settleLowest_63 : decode cX4_settleLowest 63 = .ok (.bastore, 1) := by decide +kernel
theorem dX4_settleLowest_64 : decode cX4_settleLowest 64 = .ok (.iinc 4 1, 3) := by decide +kernel
theorem dX4_settleLowest_67 : decode cX4_settleLowest 67 = .ok (.goto (-64), 3) := by decide +kernel
theorem dX4_settleLowest_70 : decode cX4_settleLowest 70 = .ok (.return_, 1) := by decide +kernel
theorem dX4_difference_0 : decode cX4_difference 0 = .ok (.sipush 1599, 3) := by decide +kernel
theorem dX4_difference_3 : decode cX4_difference 3 = .ok (.istore_n 3, 1) := by decide +kernel
theorem dX4_difference_4 : decode cX4_difference 4 = .ok (.iconst 0, 1) := by decide +kernel
theorem dX4_difference_5 : decode cX4_difference 5 = .ok (.istore 4, 2) := by decide +kernel
theorem dX4_difference_7 : decode cX4_difference 7 = .ok (.iconst 0, 1) := by decide +kernel
theorem dX4_difference_8 : decode cX4_difference 8 = .ok (.istore 5, 2) := by decide +kernel
theorem dX4_difference_10 : decode cX4_difference 10 = .ok (.iconst 0, 1) := by decide +kernel
theorem dX4_difference_11 : decode cX4_difference 11 = .ok (.istore 6, 2) := by decide +kernel
theorem dX4_difference_13 : decode cX4_difference 13 = .ok (.iload 6, 2) := by decide +kernel
theorem dX4_difference_15 : decode cX4_difference 15 = .ok (.aload_n 1, 1) := by decide +kernel
theorem dX4_difference_16 : decode cX4_difference 16 = .ok (.getfield 36, 3) := by decide +kernel
theorem dX4_difference_19 : decode cX4_difference 19 = .ok (.if_icmp .ge 120, 3) := by decide +kernel
theorem dX4_difference_22 : decode cX4_difference 22 = .ok (.aload_n 0, 1) := by decide +kernel
theorem dX4_difference_23 : decode cX4_difference 23 = .ok (.getfield 19, 3) := by decide +kernel
theorem dX4_difference_26 : decode cX4_difference 26 = .ok (.iload 6, 2) := by decide +kernel
theorem dX4_difference_28 : decode cX4_difference 28 = .ok (.iaload, 1) := by decide +kernel
theorem dX4_difference_29 : decode cX4_difference 29 = .ok (.istore 7, 2) := by decide +kernel
theorem dX4_difference_31 : decode cX4_difference 31 = .ok (.iconst 0, 1) := by decide +kernel
theorem dX4_difference_32 : decode cX4_difference 32 = .ok (.istore 8, 2) := by decide +kernel
theorem dX4_difference_34 : decode cX4_difference 34 = .ok (.iload 7, 2) := by decide +kernel
theorem dX4_difference_36 : decode cX4_difference 36 = .ok (.iload_n 2, 1) := by decide +kernel
theorem dX4_difference_37 : decode cX4_difference 37 = .ok (.if_icmp .ge 15, 3) := by decide +kernel
theorem dX4_difference_40 : decode cX4_difference 40 = .ok (.aload_n 0, 1) := by decide +kernel
theorem dX4_difference_41 : decode cX4_difference 41 = .ok (.getfield 22, 3) := by decide +kernel
theorem dX4_difference_44 : decode cX4_difference 44 = .ok (.iload 7, 2) := by decide +kernel
theorem dX4_difference_46 : decode cX4_difference 46 = .ok (.iaload, 1) := by decide +kernel
theorem dX4_difference_47 : decode cX4_difference 47 = .ok (.istore 8, 2) := by decide +kernel
theorem dX4_difference_49 : decode cX4_difference 49 = .ok (.goto 53, 3) := by decide +kernel
theorem dX4_difference_52 : decode cX4_difference 52 = .ok (.iload 5, 2) := by decide +kernel
theorem dX4_difference_54 : decode cX4_difference 54 = .ok (.aload_n 1, 1) := by decide +kernel
theorem dX4_difference_55 : decode cX4_difference 55 = .ok (.getfield 36, 3) := by decide +kernel
theorem dX4_difference_58 : decode cX4_difference 58 = .ok (.if_icmp .ge 19, 3) := by decide +kernel
theorem dX4_difference_61 : decode cX4_difference 61 = .ok (.aload_n 0, 1) := by decide +kernel
theorem dX4_difference_62 : decode cX4_difference 62 = .ok (.getfield 15, 3) := by decide +kernel
theorem dX4_difference_65 : decode cX4_difference 65 = .ok (.iload 5, 2) := by decide +kernel
theorem dX4_difference_67 : decode cX4_difference 67 = .ok (.baload, 1) := by decide +kernel
theorem dX4_difference_68 : decode cX4_difference 68 = .ok (.ifCond .eq 9, 3) := by decide +kernel
theorem dX4_difference_71 : decode cX4_difference 71 = .ok (.iinc 5 1, 3) := by decide +kernel
theorem dX4_difference_74 : decode cX4_difference 74 = .ok (.goto (-22), 3) := by decide +kernel
theorem dX4_difference_77 : decode cX4_difference 77 = .ok (.iload 5, 2) := by decide +kernel
theorem dX4_difference_79 : decode cX4_difference 79 = .ok (.aload_n 1, 1) := by decide +kernel
theorem dX4_difference_80 : decode cX4_difference 80 = .ok (.getfield 36, 3) := by decide +kernel
theorem dX4_difference_83 : decode cX4_difference 83 = .ok (.if_icmp .ge 13, 3) := by decide +kernel
theorem dX4_difference_86 : decode cX4_difference 86 = .ok (.aload_n 0, 1) := by decide +kernel
theorem dX4_difference_87 : decode cX4_difference 87 = .ok (.getfield 9, 3) := by decide +kernel
theorem dX4_difference_90 : decode cX4_difference 90 = .ok (.iload 5, 2) := by decide +kernel
theorem dX4_difference_92 : decode cX4_difference 92 = .ok (.iaload, 1) := by decide +kernel
theorem dX4_difference_93 : decode cX4_difference 93 = .ok (.goto 4, 3) := by decide +kernel
theorem dX4_difference_96 : decode cX4_difference 96 = .ok (.iconst 0, 1) := by decide +kernel
theorem dX4_difference_97 : decode cX4_difference 97 = .ok (.istore 8, 2) := by decide +kernel
theorem dX4_difference_99 : decode cX4_difference 99 = .ok (.iinc 5 1, 3) := by decide +kernel
theorem dX4_difference_102 : decode cX4_difference 102 = .ok (.bipush 30, 2) := by decide +kernel
theorem dX4_difference_104 : decode cX4_difference 104 = .ok (.iload 8, 2) := by decide +kernel
theorem dX4_difference_106 : decode cX4_difference 106 = .ok (.imul, 1) := by decide +kernel
theorem dX4_difference_107 : decode cX4_difference 107 = .ok (.aload_n 1, 1) := by decide +kernel
theorem dX4_difference_108 : decode cX4_difference 108 = .ok (.getfield 55, 3) := by decide +kernel
theorem dX4_difference_111 : decode cX4_difference 111 = .ok (.iload 7, 2) := by decide +kernel
theorem dX4_difference_113 : decode cX4_difference 113 = .ok (.iaload, 1) := by decide +kernel
theorem dX4_difference_114 : decode cX4_difference 114 = .ok (.iadd, 1) := by decide +kernel
theorem dX4_difference_115 : decode cX4_difference 115 = .ok (.istore 9, 2) := by decide +kernel
theorem dX4_difference_117 : decode cX4_difference 117 = .ok (.iload_n 3, 1) := by decide +kernel
theorem dX4_difference_118 : decode cX4_difference 118 = .ok (.iload 9, 2) := by decide +kernel
theorem dX4_difference_120 : decode cX4_difference 120 = .ok (.invokestatic 58, 3) := by decide +kernel
theorem dX4_difference_123 : decode cX4_difference 123 = .ok (.istore_n 3, 1) := by decide +kernel
theorem dX4_difference_124 : decode cX4_difference 124 = .ok (.iload 4, 2) := by decide +kernel
theorem dX4_difference_126 : decode cX4_difference 126 = .ok (.iload 9, 2) := by decide +kernel
theorem dX4_difference_128 : decode cX4_difference 128 = .ok (.invokestatic 64, 3) := by decide +kernel
theorem dX4_difference_131 : decode cX4_difference 131 = .ok (.istore 4, 2) := by decide +kernel
theorem dX4_difference_133 : decode cX4_difference 133 = .ok (.iinc 6 1, 3) := by decide +kernel
theorem dX4_difference_136 : decode cX4_difference 136 = .ok (.goto (-123), 3) := by decide +kernel
theorem dX4_difference_139 : decode cX4_difference 139 = .ok (.iload 4, 2) := by decide +kernel
theorem dX4_difference_141 : decode cX4_difference 141 = .ok (.iload_n 3, 1) := by decide +kernel
theorem dX4_difference_142 : decode cX4_difference 142 = .ok (.isub, 1) := by decide +kernel
theorem dX4_difference_143 : decode cX4_difference 143 = .ok (.ireturn, 1) := by decide +kernel
theorem dX5_init_0 : decode cX5_init 0 = .ok (.aload_n 0, 1) := by decide +kernel
theorem dX5_init_1 : decode cX5_init 1 = .ok (.invokespecial 3, 3) := by decide +kernel
theorem dX5_init_4 : decode cX5_init 4 = .ok (.aload_n 0, 1) := by decide +kernel
theorem dX5_init_5 : decode cX5_init 5 = .ok (.bipush 8, 2) := by decide +kernel
theorem dX5_init_7 : decode cX5_init 7 = .ok (.newarray .int, 2) := by decide +kernel
theorem dX5_init_9 : decode cX5_init 9 = .ok (.putfield 9, 3) := by decide +kernel
theorem dX5_init_12 : decode cX5_init 12 = .ok (.aload_n 0, 1) := by decide +kernel
theorem dX5_init_13 : decode cX5_init 13 = .ok (.iconst 0, 1) := by decide +kernel
theorem dX5_init_14 : decode cX5_init 14 = .ok (.putfield 15, 3) := by decide +kernel
theorem dX5_init_17 : decode cX5_init 17 = .ok (.return_, 1) := by decide +kernel
theorem dX5_clear_0 : decode cX5_clear 0 = .ok (.aload_n 0, 1) := by decide +kernel
theorem dX5_clear_1 : decode cX5_clear 1 = .ok (.iconst 0, 1) := by decide +kernel
theorem dX5_clear_2 : decode cX5_clear 2 = .ok (.putfield 15, 3) := by decide +kernel
theorem dX5_clear_5 : decode cX5_clear 5 = .ok (.return_, 1) := by decide +kernel
theorem dX5_lay_0 : decode cX5_lay 0 = .ok (.aload_n 0, 1) := by decide +kernel
theorem dX5_lay_1 : decode cX5_lay 1 = .ok (.getfield 15, 3) := by decide +kernel
theorem dX5_lay_4 : decode cX5_lay 4 = .ok (.ifCond .lt 35, 3) := by decide +kernel
theorem dX5_lay_7 : decode cX5_lay 7 = .ok (.aload_n 0, 1) := by decide +kernel
theorem dX5_lay_8 : decode cX5_lay 8 = .ok (.getfield 15, 3) := by decide +kernel
theorem dX5_lay_11 : decode cX5_lay 11 = .ok (.aload_n 0, 1) := by decide +kernel
theorem dX5_lay_12 : decode cX5_lay 12 = .ok (.getfield 9, 3) := by decide +kernel
theorem dX5_lay_15 : decode cX5_lay 15 = .ok (.arraylength, 1) := by decide +kernel
theorem dX5_lay_16 : decode cX5_lay 16 = .ok (.if_icmp .ge 23, 3) := by decide +kernel
theorem dX5_lay_19 : decode cX5_lay 19 = .ok (.aload_n 0, 1) := by decide +kernel
theorem dX5_lay_20 : decode cX5_lay 20 = .ok (.getfield 9, 3) := by decide +kernel
theorem dX5_lay_23 : decode cX5_lay 23 = .ok (.aload_n 0, 1) := by decide +kernel
theorem dX5_lay_24 : decode cX5_lay 24 = .ok (.getfield 15, 3) := by decide +kernel
theorem dX5_lay_27 : decode cX5_lay 27 = .ok (.iload_n 1, 1) := by decide +kernel
theorem dX5_lay_28 : decode cX5_lay 28 = .ok (.iastore, 1) := by decide +kernel
theorem dX5_lay_29 : decode cX5_lay 29 = .ok (.aload_n 0, 1) := by decide +kernel
theorem dX5_lay_30 : decode cX5_lay 30 = .ok (.dup, 1) := by decide +kernel
theorem dX5_lay_31 : decode cX5_lay 31 = .ok (.getfield 15, 3) := by decide +kernel
theorem dX5_lay_34 : decode cX5_lay 34 = .ok (.iconst 1, 1) := by decide +kernel
theorem dX5_lay_35 : decode cX5_lay 35 = .ok (.iadd, 1) := by decide +kernel
theorem dX5_lay_36 : decode cX5_lay 36 = .ok (.putfield 15, 3) := by decide +kernel
theorem dX5_lay_39 : decode cX5_lay 39 = .ok (.return_, 1) := by decide +kernel
theorem dX5_get_0 : decode cX5_get 0 = .ok (.iload_n 1, 1) := by decide +kernel
theorem dX5_get_1 : decode cX5_get 1 = .ok (.ifCond .lt 29, 3) := by decide +kernel
theorem dX5_get_4 : decode cX5_get 4 = .ok (.iload_n 1, 1) := by decide +kernel
theorem dX5_get_5 : decode cX5_get 5 = .ok (.aload_n 0, 1) := by decide +kernel
theorem dX5_get_6 : decode cX5_get 6 = .ok (.getfield 15, 3) := by decide +kernel
theorem dX5_get_9 : decode cX5_get 9 = .ok (.if_icmp .ge 21, 3) := by decide +kernel
theorem dX5_get_12 : decode cX5_get 12 = .ok (.iload_n 1, 1) := by decide +kernel
theorem dX5_get_13 : decode cX5_get 13 = .ok (.aload_n 0, 1) := by decide +kernel
theorem dX5_get_14 : decode cX5_get 14 = .ok (.getfield 9, 3) := by decide +kernel
theorem dX5_get_17 : decode cX5_get 17 = .ok (.arraylength, 1) := by decide +kernel
theorem dX5_get_18 : decode cX5_get 18 = .ok (.if_icmp .ge 12, 3) := by decide +kernel
theorem dX5_get_21 : decode cX5_get 21 = .ok (.aload_n 0, 1) := by decide +kernel
theorem dX5_get_22 : decode cX5_get 22 = .ok (.getfield 9, 3) := by decide +kernel
theorem dX5_get_25 : decode cX5_get 25 = .ok (.iload_n 1, 1) := by decide +kernel
theorem dX5_get_26 : decode cX5_get 26 = .ok (.iaload, 1) := by decide +kernel
theorem dX5_get_27 : decode cX5_get 27 = .ok (.goto 5, 3) := by decide +kernel
theorem dX5_get_30 : decode cX5_get 30 = .ok (.bipush (-2), 2) := by decide +kernel
theorem dX5_get_32 : decode cX5_get 32 = .ok (.ireturn, 1) := by decide +kernel
theorem dX6_init_0 : decode cX6_init 0 = .ok (.aload_n 0, 1) := by decide +kernel
theorem dX6_init_1 : decode cX6_init 1 = .ok (.invokespecial 3, 3) := by decide +kernel
theorem dX6_init_4 : decode cX6_init 4 = .ok (.aload_n 0, 1) := by decide +kernel
theorem dX6_init_5 : decode cX6_init 5 = .ok (.iconst 0, 1) := by decide +kernel
theorem dX6_init_6 : decode cX6_init 6 = .ok (.putfield 9, 3) := by decide +kernel
theorem dX6_init_9 : decode cX6_init 9 = .ok (.aload_n 0, 1) := by decide +kernel
theorem dX6_init_10 : decode cX6_init 10 = .ok (.bipush 8, 2) := by decide +kernel
theorem dX6_init_12 : decode cX6_init 12 = .ok (.newarray .int, 2) := by decide +kernel
theorem dX6_init_14 : decode cX6_init 14 = .ok (.putfield 15, 3) := by decide +kernel
theorem dX6_init_17 : decode cX6_init 17 = .ok (.aload_n 0, 1) := by decide +kernel
theorem dX6_init_18 : decode cX6_init 18 = .ok (.bipush 8, 2) := by decide +kernel
theorem dX6_init_20 : decode cX6_init 20 = .ok (.newarray .int, 2) := by decide +kernel
theorem dX6_init_22 : decode cX6_init 22 = .ok (.putfield 19, 3) := by decide +kernel
theorem dX6_init_25 : decode cX6_init 25 = .ok (.aload_n 0, 1) := by decide +kernel
theorem dX6_init_26 : decode cX6_init 26 = .ok (.bipush 8, 2) := by decide +kernel
theorem dX6_init_28 : decode cX6_init 28 = .ok (.newarray .int, 2) := by decide +kernel
theorem dX6_init_30 : decode cX6_init 30 = .ok (.putfield 22, 3) := by decide +kernel
theorem dX6_init_33 : decode cX6_init 33 = .ok (.aload_n 0, 1) := by decide +kernel
theorem dX6_init_34 : decode cX6_init 34 = .ok (.sipush 2304, 3) := by decide +kernel
theorem dX6_init_37 : decode cX6_init 37 = .ok (.newarray .int, 2) := by decide +kernel
theorem dX6_init_39 : decode cX6_init 39 = .ok (.putfield 25, 3) := by decide +kernel
theorem dX6_init_42 : decode cX6_init 42 = .ok (.return_, 1) := by decide +kernel
theorem dX6_clear_0 : decode cX6_clear 0 = .ok (.aload_n 0, 1) := by decide +kernel
theorem dX6_clear_1 : decode cX6_clear 1 = .ok (.iconst 0, 1) := by decide +kernel
theorem dX6_clear_2 : decode cX6_clear 2 = .ok (.iload_n 1, 1) := by decide +kernel
theorem dX6_clear_3 : decode cX6_clear 3 = .ok (.bipush 8, 2) := by decide +kernel
theorem dX6_clear_5 : decode cX6_clear 5 = .ok (.invokestatic 28, 3) := by decide +kernel
theorem dX6_clear_8 : decode cX6_clear 8 = .ok (.invokestatic 34, 3) := by decide +kernel
theorem dX6_clear_11 : decode cX6_clear 11 = .ok (.putfield 9, 3) := by decide +kernel
theorem dX6_clear_14 : decode cX6_clear 14 = .ok (.iconst 0, 1) := by decide +kernel
theorem dX6_clear_15 : decode cX6_clear 15 = .ok (.istore_n 2, 1) := by decide +kernel
theorem dX6_clear_16 : decode cX6_clear 16 = .ok (.iload_n 2, 1) := by decide +kernel
theorem dX6_clear_17 : decode cX6_clear 17 = .ok (.bipush 8, 2) := by decide +kernel
theorem dX6_clear_19 : decode cX6_clear 19 = .ok (.if_icmp .ge 30, 3) := by decide +kernel
theorem dX6_clear_22 : decode cX6_clear 22 = .ok (.aload_n 0, 1) := by decide +kernel
theorem dX6_clear_23 : decode cX6_clear 23 = .ok (.getfield 15, 3) := by decide +kernel
theorem dX6_clear_26 : decode cX6_clear 26 = .ok (.iload_n 2, 1) := by decide +kernel
theorem dX6_clear_27 : decode cX6_clear 27 = .ok (.iconst 0, 1) := by decide +kernel
theorem dX6_clear_28 : decode cX6_clear 28 = .ok (.iastore, 1) := by decide +kernel
theorem dX6_clear_29 : decode cX6_clear 29 = .ok (.aload_n 0, 1) := by decide +kernel
theorem dX6_clear_30 : decode cX6_clear 30 = .ok (.getfield 19, 3) := by decide +kernel
theorem dX6_clear_33 : decode cX6_clear 33 = .ok (.iload_n 2, 1) := by decide +kernel
theorem dX6_clear_34 : decode cX6_clear 34 = .ok (.iconst 0, 1) := by decide +kernel
theorem dX6_clear_35 : decode cX6_clear 35 = .ok (.iastore, 1) := by decide +kernel
theorem dX6_clear_36 : decode cX6_clear 36 = .ok (.aload_n 0, 1) := by decide +kernel
theorem dX6_clear_37 : decode cX6_clear 37 = .ok (.getfield 22, 3) := by decide +kernel
theorem dX6_clear_40 : decode cX6_clear 40 = .ok (.iload_n 2, 1) := by decide +kernel
theorem dX6_clear_41 : decode cX6_clear 41 = .ok (.iconst (-1), 1) := by decide +kernel
theorem dX6_clear_42 : decode cX6_clear 42 = .ok (.iastore, 1) := by decide +kernel
theorem dX6_clear_43 : decode cX6_clear 43 = .ok (.iinc 2 1, 3) := by decide +kernel
theorem dX6_clear_46 : decode cX6_clear 46 = .ok (.goto (-30), 3) := by decide +kernel
theorem dX6_clear_49 : decode cX6_clear 49 = .ok (.return_, 1) := by decide +kernel
theorem dX6_allow_0 : decode cX6_allow 0 = .ok (.iload_n 1, 1) := by decide +kernel
theorem dX6_allow_1 : decode cX6_allow 1 = .ok (.ifCond .lt 25, 3) := by decide +kernel
theorem dX6_allow_4 : decode cX6_allow 4 = .ok (.iload_n 1, 1) := by decide +kernel
theorem dX6_allow_5 : decode cX6_allow 5 = .ok (.aload_n 0, 1) := by decide +kernel
theorem dX6_allow_6 : decode cX6_allow 6 = .ok (.getfield 9, 3) := by decide +kernel
theorem dX6_allow_9 : decode cX6_allow 9 = .ok (.if_icmp .ge 17, 3) := by decide +kernel
theorem dX6_allow_12 : decode cX6_allow 12 = .ok (.aload_n 0, 1) := by decide +kernel
theorem dX6_allow_13 : decode cX6_allow 13 = .ok (.getfield 15, 3) := by decide +kernel
theorem dX6_allow_16 : decode cX6_allow 16 = .ok (.iload_n 1, 1) := by decide +kernel
theorem dX6_allow_17 : decode cX6_allow 17 = .ok (.iload_n 2, 1) := by decide +kernel
theorem dX6_allow_18 : decode cX6_allow 18 = .ok (.iastore, 1) := by decide +kernel
theorem dX6_allow_19 : decode cX6_allow 19 = .ok (.aload_n 0, 1) := by decide +kernel
theorem dX6_allow_20 : decode cX6_allow 20 = .ok (.getfield 19, 3) := by decide +kernel
theorem dX6_allow_23 : decode cX6_allow 23 = .ok (.iload_n 1, 1) := by decide +kernel
theorem dX6_allow_24 : decode cX6_allow 24 = .ok (.iload_n 3, 1) := by decide +kernel
theorem dX6_allow_25 : decode cX6_allow 25 = .ok (.iastore, 1) := by decide +kernel
theorem dX6_allow_26 : decode cX6_allow 26 = .ok (.return_, 1) := by decide +kernel
theorem dX6_solve_0 : decode cX6_solve 0 = .ok (.iconst 1, 1) := by decide +kernel
theorem dX6_solve_1 : decode cX6_solve 1 = .ok (.aload_n 0, 1) := by decide +kernel
theorem dX6_solve_2 : decode cX6_solve 2 = .ok (.getfield 9, 3) := by decide +kernel
theorem dX6_solve_5 : decode cX6_solve 5 = .ok (.ishl, 1) := by decide +kernel
theorem dX6_solve_6 : decode cX6_solve 6 = .ok (.istore_n 1, 1) := by decide +kernel
theorem dX6_solve_7 : decode cX6_solve 7 = .ok (.iconst 0, 1) := by decide +kernel
theorem dX6_solve_8 : decode cX6_solve 8 = .ok (.istore_n 2, 1) := by decide +kernel
theorem dX6_solve_9 : decode cX6_solve 9 = .ok (.iload_n 2, 1) := by decide +kernel
theorem dX6_solve_10 : decode cX6_solve 10 = .ok (.iload_n 1, 1) := by decide +kernel
theorem dX6_solve_11 : decode cX6_solve 11 = .ok (.if_icmp .ge 23, 3) := by decide +kernel
theorem dX6_solve_14 : decode cX6_solve 14 = .ok (.aload_n 0, 1) := by decide +kernel
theorem dX6_solve_15 : decode cX6_solve 15 = .ok (.getfield 25, 3) := by decide +kernel
theorem dX6_solve_18 : decode cX6_solve 18 = .ok (.aload_n 0, 1) := by decide +kernel
theorem dX6_solve_19 : decode cX6_solve 19 = .ok (.getfield 9, 3) := by decide +kernel
theorem dX6_solve_22 : decode cX6_solve 22 = .ok (.iload_n 2, 1) := by decide +kernel
theorem dX6_solve_23 : decode cX6_solve 23 = .ok (.invokestatic 37, 3) := by decide +kernel
theorem dX6_solve_26 : decode cX6_solve 26 = .ok (.iconst 0, 1) := by decide +kernel
theorem dX6_solve_27 : decode cX6_solve 27 = .ok (.iastore, 1) := by decide +kernel
theorem dX6_solve_28 : decode cX6_solve 28 = .ok (.iinc 2 1, 3) := by decide +kernel
theorem dX6_solve_31 : decode cX6_solve 31 = .ok (.goto (-22), 3) := by decide +kernel
theorem dX6_solve_34 : decode cX6_solve 34 = .ok (.aload_n 0, 1) := by decide +kernel
theorem dX6_solve_35 : decode cX6_solve 35 = .ok (.getfield 9, 3) := by decide +kernel
theorem dX6_solve_38 : decode cX6_solve 38 = .ok (.iconst 1, 1) := by decide +kernel
theorem dX6_solve_39 : decode cX6_solve 39 = .ok (.isub, 1) := by decide +kernel
theorem dX6_solve_40 : decode cX6_solve 40 = .ok (.istore_n 2, 1) := by decide +kernel
theorem dX6_solve_41 : decode cX6_solve 41 = .ok (.iload_n 2, 1) := by decide +kernel
theorem dX6_solve_42 : decode cX6_solve 42 = .ok (.ifCond .lt 46, 3) := by decide +kernel
theorem dX6_solve_45 : decode cX6_solve 45 = .ok (.iconst 0, 1) := by decide +kernel
theorem dX6_solve_46 : decode cX6_solve 46 = .ok (.istore_n 3, 1) := by decide +kernel
theorem dX6_solve_47 : decode cX6_solve 47 = .ok (.iload_n 3, 1) := by decide +kernel
theorem dX6_solve_48 : decode cX6_solve 48 = .ok (.iload_n 1, 1) := by decide +kernel
theorem dX6_solve_49 : decode cX6_solve 49 = .ok (.if_icmp .ge 33, 3) := by decide +kernel
theorem dX6_solve_52 : decode cX6_solve 52 = .ok (.iload_n 3, 1) := by decide +kernel
theorem dX6_solve_53 : decode cX6_solve 53 = .ok (.invokestatic 40, 3) := by decide +kernel
theorem dX6_solve_56 : decode cX6_solve 56 = .ok (.iload_n 2, 1) := by decide +kernel
theorem dX6_solve_57 : decode cX6_solve 57 = .ok (.if_icmp .gt 19, 3) := by decide +kernel
theorem dX6_solve_60 : decode cX6_solve 60 = .ok (.aload_n 0, 1) := by decide +kernel
theorem dX6_solve_61 : decode cX6_solve 61 = .ok (.getfield 25, 3) := by decide +kernel
theorem dX6_solve_64 : decode cX6_solve 64 = .ok (.iload_n 2, 1) := by decide +kernel
theorem dX6_solve_65 : decode cX6_solve 65 = .ok (.iload_n 3, 1) := by decide +kernel
theorem dX6_solve_66 : decode cX6_solve 66 = .ok (.invokestatic 37, 3) := by decide +kernel
theorem dX6_solve_69 : decode cX6_solve 69 = .ok (.aload_n 0, 1) := by decide +kernel
theorem dX6_solve_70 : decode cX6_solve 70 = .ok (.iload_n 2, 1) := by decide +kernel
theorem dX6_solve_71 : decode cX6_solve 71 = .ok (.iload_n 3, 1) := by decide +kernel
theorem dX6_solve_72 : decode cX6_solve 72 = .ok (.invokevirtual 46, 3) := by decide +kernel
theorem dX6_solve_75 : decode cX6_solve 75 = .ok (.iastore, 1) := by decide +kernel
theorem dX6_solve_76 : decode cX6_solve 76 = .ok (.iinc 3 1, 3) := by decide +kernel
theorem dX6_solve_79 : decode cX6_solve 79 = .ok (.goto (-32), 3) := by decide +kernel
theorem dX6_solve_82 : decode cX6_solve 82 = .ok (.iinc 2 (-1), 3) := by decide +kernel
theorem dX6_solve_85 : decode cX6_solve 85 = .ok (.goto (-44), 3) := by decide +kernel
theorem dX6_solve_88 : decode cX6_solve 88 = .ok (.aload_n 0, 1) := by decide +kernel
theorem dX6_solve_89 : decode cX6_solve 89 = .ok (.invokevirtual 49, 3) := by decide +kernel
theorem dX6_solve_92 : decode cX6_solve 92 = .ok (.return_, 1) := by decide +kernel
theorem dX6_placeOf_0 : decode cX6_placeOf 0 = .ok (.iload_n 0, 1) := by decide +kernel
theorem dX6_placeOf_1 : decode cX6_placeOf 1 = .ok (.sipush 256, 3) := by decide +kernel
theorem dX6_placeOf_4 : decode cX6_placeOf 4 = .ok (.imul, 1) := by decide +kernel
theorem dX6_placeOf_5 : decode cX6_placeOf 5 = .ok (.iload_n 1, 1) := by decide +kernel
theorem dX6_placeOf_6 : decode cX6_placeOf 6 = .ok (.sipush 255, 3) := by decide +kernel
theorem dX6_placeOf_9 : decode cX6_placeOf 9 = .ok (.iand, 1) := by decide +kernel
theorem dX6_placeOf_10 : decode cX6_placeOf 10 = .ok (.iadd, 1) := by decide +kernel
theorem dX6_placeOf_11 : decode cX6_placeOf 11 = .ok (.ireturn, 1) := by decide +kernel
theorem dX6_bestFrom_0 : decode cX6_bestFrom 0 = .ok (.aload_n 0, 1) := by decide +kernel
theorem dX6_bestFrom_1 : decode cX6_bestFrom 1 = .ok (.getfield 25, 3) := by decide +kernel
theorem dX6_bestFrom_4 : decode cX6_bestFrom 4 = .ok (.iload_n 1, 1) := by decide +kernel
theorem dX6_bestFrom_5 : decode cX6_bestFrom 5 = .ok (.iconst 1, 1) := by decide +kernel
theorem dX6_bestFrom_6 : decode cX6_bestFrom 6 = .ok (.iadd, 1) := by decide +kernel
theorem dX6_bestFrom_7 : decode cX6_bestFrom 7 = .ok (.iload_n 2, 1) := by decide +kernel
theorem dX6_bestFrom_8 : decode cX6_bestFrom 8 = .ok (.invokestatic 37, 3) := by decide +kernel
theorem dX6_bestFrom_11 : decode cX6_bestFrom 11 = .ok (.iaload, 1) := by decide +kernel
theorem dX6_bestFrom_12 : decode cX6_bestFrom 12 = .ok (.istore_n 3, 1) := by decide +kernel
theorem dX6_bestFrom_13 : decode cX6_bestFrom 13 = .ok (.iconst 0, 1) := by decide +kernel
theorem dX6_bestFrom_14 : decode cX6_bestFrom 14 = .ok (.istore 4, 2) := by decide +kernel
theorem dX6_bestFrom_16 : decode cX6_bestFrom 16 = .ok (.iload 4, 2) := by decide +kernel
theorem dX6_bestFrom_18 : decode cX6_bestFrom 18 = .ok (.aload_n 0, 1) := by decide +kernel
theorem dX6_bestFrom_19 : decode cX6_bestFrom 19 = .ok (.getfield 9, 3) := by decide +kernel
theorem dX6_bestFrom_22 : decode cX6_bestFrom 22 = .ok (.if_icmp .ge 33, 3) := by decide +kernel
theorem dX6_bestFrom_25 : decode cX6_bestFrom 25 = .ok (.aload_n 0, 1) := by decide +kernel
theorem dX6_bestFrom_26 : decode cX6_bestFrom 26 = .ok (.iload 4, 2) := by decide +kernel
theorem dX6_bestFrom_28 : decode cX6_bestFrom 28 = .ok (.iload_n 1, 1) := by decide +kernel
theorem dX6_bestFrom_29 : decode cX6_bestFrom 29 = .ok (.iload_n 2, 1) := by decide +kernel
theorem dX6_bestFrom_30 : decode cX6_bestFrom 30 = .ok (.invokevirtual 52, 3) := by decide +kernel
theorem dX6_bestFrom_33 : decode cX6_bestFrom 33 = .ok (.ifCond .eq 16, 3) := by decide +kernel
theorem dX6_bestFrom_36 : decode cX6_bestFrom 36 = .ok (.iload_n 3, 1) := by decide +kernel
theorem dX6_bestFrom_37 : decode cX6_bestFrom 37 = .ok (.aload_n 0, 1) := by decide +kernel
theorem dX6_bestFrom_38 : decode cX6_bestFrom 38 = .ok (.iload 4, 2) := by decide +kernel
theorem dX6_bestFrom_40 : decode cX6_bestFrom 40 = .ok (.iload_n 1, 1) := by decide +kernel
theorem dX6_bestFrom_41 : decode cX6_bestFrom 41 = .ok (.iload_n 2, 1) := by decide +kernel
theorem dX6_bestFrom_42 : decode cX6_bestFrom 42 = .ok (.invokevirtual 56, 3) := by decide +kernel
theorem dX6_bestFrom_45 : decode cX6_bestFrom 45 = .ok (.invokestatic 34, 3) := by decide +kernel
theorem dX6_bestFrom_48 : decode cX6_bestFrom 48 = .ok (.istore_n 3, 1) := by decide +kernel
theorem dX6_bestFrom_49 : decode cX6_bestFrom 49 = .ok (.iinc 4 1, 3) := by decide +kernel
theorem dX6_bestFrom_52 : decode cX6_bestFrom 52 = .ok (.goto (-36), 3) := by decide +kernel
theorem dX6_bestFrom_55 : decode cX6_bestFrom 55 = .ok (.iload_n 3, 1) := by decide +kernel
theorem dX6_bestFrom_56 : decode cX6_bestFrom 56 = .ok (.ireturn, 1) := by decide +kernel
theorem dX6_canServe_0 : decode cX6_canServe 0 = .ok (.aload_n 0, 1) := by decide +kernel
theorem dX6_canServe_1 : decode cX6_canServe 1 = .ok (.getfield 15, 3) := by decide +kernel
theorem dX6_canServe_4 : decode cX6_canServe 4 = .ok (.iload_n 2, 1) := by decide +kernel
theorem dX6_canServe_5 : decode cX6_canServe 5 = .ok (.iaload, 1) := by decide +kernel
theorem dX6_canServe_6 : decode cX6_canServe 6 = .ok (.iload_n 1, 1) := by decide +kernel
theorem dX6_canServe_7 : decode cX6_canServe 7 = .ok (.ishr, 1) := by decide +kernel
theorem dX6_canServe_8 : decode cX6_canServe 8 = .ok (.iconst 1, 1) := by decide +kernel
theorem dX6_canServe_9 : decode cX6_canServe 9 = .ok (.iand, 1) := by decide +kernel
theorem dX6_canServe_10 : decode cX6_canServe 10 = .ok (.iconst 1, 1) := by decide +kernel
theorem dX6_canServe_11 : decode cX6_canServe 11 = .ok (.if_icmp .ne 15, 3) := by decide +kernel
theorem dX6_canServe_14 : decode cX6_canServe 14 = .ok (.iload_n 3, 1) := by decide +kernel
theorem dX6_canServe_15 : decode cX6_canServe 15 = .ok (.iload_n 1, 1) := by decide +kernel
theorem dX6_canServe_16 : decode cX6_canServe 16 = .ok (.ishr, 1) := by decide +kernel
theorem dX6_canServe_17 : decode cX6_canServe 17 = .ok (.iconst 1, 1) := by decide +kernel
theorem dX6_canServe_18 : decode cX6_canServe 18 = .ok (.iand, 1) := by decide +kernel
theorem dX6_canServe_19 : decode cX6_canServe 19 = .ok (.ifCond .ne 7, 3) := by decide +kernel
theorem dX6_canServe_22 : decode cX6_canServe 22 = .ok (.iconst 1, 1) := by decide +kernel
theorem dX6_canServe_23 : decode cX6_canServe 23 = .ok (.goto 4, 3) := by decide +kernel
theorem dX6_canServe_26 : decode cX6_canServe 26 = .ok (.iconst 0, 1) := by decide +kernel
theorem dX6_canServe_27 : decode cX6_canServe 27 = .ok (.ireturn, 1) := by decide +kernel
theorem dX6_valueWith_0 : decode cX6_valueWith 0 = .ok (.sipush 1000, 3) := by decide +kernel
theorem dX6_valueWith_3 : decode cX6_valueWith 3 = .ok (.aload_n 0, 1) := by decide +kernel
theorem dX6_valueWith_4 : decode cX6_valueWith 4 = .ok (.getfield 19, 3) := by decide +kernel
theorem dX6_valueWith_7 : decode cX6_valueWith 7 = .ok (.iload_n 2, 1) := by decide +kernel
theorem dX6_valueWith_8 : decode cX6_valueWith 8 = .ok (.iaload, 1) := by decide +kernel
theorem dX6_valueWith_9 : decode cX6_valueWith 9 = .ok (.isub, 1) := by decide +kernel
theorem dX6_valueWith_10 : decode cX6_valueWith 10 = .ok (.aload_n 0, 1) := by decide +kernel
theorem dX6_valueWith_11 : decode cX6_valueWith 11 = .ok (.getfield 25, 3) := by decide +kernel
theorem dX6_valueWith_14 : decode cX6_valueWith 14 = .ok (.iload_n 2, 1) := by decide +kernel
theorem dX6_valueWith_15 : decode cX6_valueWith 15 = .ok (.iconst 1, 1) := by decide +kernel
theorem dX6_valueWith_16 : decode cX6_valueWith 16 = .ok (.iadd, 1) := by decide +kernel
theorem dX6_valueWith_17 : decode cX6_valueWith 17 = .ok (.iload_n 3, 1) := by decide +kernel
theorem dX6_valueWith_18 : decode cX6_valueWith 18 = .ok (.iconst 1, 1) := by decide +kernel
theorem dX6_valueWith_19 : decode cX6_valueWith 19 = .ok (.iload_n 1, 1) := by decide +kernel
theorem dX6_valueWith_20 : decode cX6_valueWith 20 = .ok (.ishl, 1) := by decide +kernel
theorem dX6_valueWith_21 : decode cX6_valueWith 21 = .ok (.ior, 1) := by decide +kernel
theorem dX6_valueWith_22 : decode cX6_valueWith 22 = .ok (.invokestatic 37, 3) := by decide +kernel
theorem dX6_valueWith_25 : decode cX6_valueWith 25 = .ok (.iaload, 1) := by decide +kernel
theorem dX6_valueWith_26 : decode cX6_valueWith 26 = .ok (.iadd, 1) := by decide +kernel
theorem dX6_valueWith_27 : decode cX6_valueWith 27 = .ok (.ireturn, 1) := by decide +kernel
theorem dX6_choose_0 : decode cX6_choose 0 = .ok (.iconst 0, 1) := by decide +kernel
theorem dX6_choose_1 : decode cX6_choose 1 = .ok (.istore_n 1, 1) := by decide +kernel
