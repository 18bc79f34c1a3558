theorem dX0_init_0 : decode cX0_init 0 = .ok (.aload_n 0, 1) := by decide +kernel
theorem dX0_init_1 : decode cX0_init 1 = .ok (.invokespecial 3, 3) := by decide +kernel
theorem dX0_init_4 : decode cX0_init 4 = .ok (.aload_n 0, 1) := by decide +kernel
theorem dX0_init_5 : decode cX0_init 5 = .ok (.aload_n 1, 1) := by decide +kernel
theorem dX0_init_6 : decode cX0_init 6 = .ok (.putfield 9, 3) := by decide +kernel
theorem dX0_init_9 : decode cX0_init 9 = .ok (.aload_n 0, 1) := by decide +kernel
theorem dX0_init_10 : decode cX0_init 10 = .ok (.bipush 40, 2) := by decide +kernel
theorem dX0_init_12 : decode cX0_init 12 = .ok (.newarray .int, 2) := by decide +kernel
theorem dX0_init_14 : decode cX0_init 14 = .ok (.putfield 15, 3) := by decide +kernel
theorem dX0_init_17 : decode cX0_init 17 = .ok (.aload_n 0, 1) := by decide +kernel
theorem dX0_init_18 : decode cX0_init 18 = .ok (.bipush 40, 2) := by decide +kernel
theorem dX0_init_20 : decode cX0_init 20 = .ok (.newarray .int, 2) := by decide +kernel
theorem dX0_init_22 : decode cX0_init 22 = .ok (.putfield 19, 3) := by decide +kernel
theorem dX0_init_25 : decode cX0_init 25 = .ok (.aload_n 0, 1) := by decide +kernel
theorem dX0_init_26 : decode cX0_init 26 = .ok (.bipush 40, 2) := by decide +kernel
theorem dX0_init_28 : decode cX0_init 28 = .ok (.newarray .int, 2) := by decide +kernel
theorem dX0_init_30 : decode cX0_init 30 = .ok (.putfield 22, 3) := by decide +kernel
theorem dX0_init_33 : decode cX0_init 33 = .ok (.aload_n 0, 1) := by decide +kernel
theorem dX0_init_34 : decode cX0_init 34 = .ok (.bipush 41, 2) := by decide +kernel
theorem dX0_init_36 : decode cX0_init 36 = .ok (.newarray .int, 2) := by decide +kernel
theorem dX0_init_38 : decode cX0_init 38 = .ok (.putfield 25, 3) := by decide +kernel
theorem dX0_init_41 : decode cX0_init 41 = .ok (.aload_n 0, 1) := by decide +kernel
theorem dX0_init_42 : decode cX0_init 42 = .ok (.bipush 41, 2) := by decide +kernel
theorem dX0_init_44 : decode cX0_init 44 = .ok (.newarray .int, 2) := by decide +kernel
theorem dX0_init_46 : decode cX0_init 46 = .ok (.putfield 28, 3) := by decide +kernel
theorem dX0_init_49 : decode cX0_init 49 = .ok (.aload_n 0, 1) := by decide +kernel
theorem dX0_init_50 : decode cX0_init 50 = .ok (.bipush 41, 2) := by decide +kernel
theorem dX0_init_52 : decode cX0_init 52 = .ok (.newarray .int, 2) := by decide +kernel
theorem dX0_init_54 : decode cX0_init 54 = .ok (.putfield 31, 3) := by decide +kernel
theorem dX0_init_57 : decode cX0_init 57 = .ok (.aload_n 0, 1) := by decide +kernel
theorem dX0_init_58 : decode cX0_init 58 = .ok (.bipush 40, 2) := by decide +kernel
theorem dX0_init_60 : decode cX0_init 60 = .ok (.newarray .int, 2) := by decide +kernel
theorem dX0_init_62 : decode cX0_init 62 = .ok (.putfield 34, 3) := by decide +kernel
theorem dX0_init_65 : decode cX0_init 65 = .ok (.aload_n 0, 1) := by decide +kernel
theorem dX0_init_66 : decode cX0_init 66 = .ok (.iconst 0, 1) := by decide +kernel
theorem dX0_init_67 : decode cX0_init 67 = .ok (.putfield 37, 3) := by decide +kernel
theorem dX0_init_70 : decode cX0_init 70 = .ok (.aload_n 0, 1) := by decide +kernel
theorem dX0_init_71 : decode cX0_init 71 = .ok (.iconst 0, 1) := by decide +kernel
theorem dX0_init_72 : decode cX0_init 72 = .ok (.putfield 41, 3) := by decide +kernel
theorem dX0_init_75 : decode cX0_init 75 = .ok (.aload_n 0, 1) := by decide +kernel
theorem dX0_init_76 : decode cX0_init 76 = .ok (.iconst 0, 1) := by decide +kernel
theorem dX0_init_77 : decode cX0_init 77 = .ok (.putfield 44, 3) := by decide +kernel
theorem dX0_init_80 : decode cX0_init 80 = .ok (.return_, 1) := by decide +kernel
theorem dX0_plan_0 : decode cX0_plan 0 = .ok (.aload_n 0, 1) := by decide +kernel
theorem dX0_plan_1 : decode cX0_plan 1 = .ok (.iload_n 1, 1) := by decide +kernel
theorem dX0_plan_2 : decode cX0_plan 2 = .ok (.putfield 37, 3) := by decide +kernel
theorem dX0_plan_5 : decode cX0_plan 5 = .ok (.aload_n 0, 1) := by decide +kernel
theorem dX0_plan_6 : decode cX0_plan 6 = .ok (.iload_n 2, 1) := by decide +kernel
theorem dX0_plan_7 : decode cX0_plan 7 = .ok (.putfield 41, 3) := by decide +kernel
theorem dX0_plan_10 : decode cX0_plan 10 = .ok (.aload_n 0, 1) := by decide +kernel
theorem dX0_plan_11 : decode cX0_plan 11 = .ok (.iload_n 3, 1) := by decide +kernel
theorem dX0_plan_12 : decode cX0_plan 12 = .ok (.putfield 44, 3) := by decide +kernel
theorem dX0_plan_15 : decode cX0_plan 15 = .ok (.aload_n 0, 1) := by decide +kernel
theorem dX0_plan_16 : decode cX0_plan 16 = .ok (.invokevirtual 47, 3) := by decide +kernel
theorem dX0_plan_19 : decode cX0_plan 19 = .ok (.aload_n 0, 1) := by decide +kernel
theorem dX0_plan_20 : decode cX0_plan 20 = .ok (.invokevirtual 50, 3) := by decide +kernel
theorem dX0_plan_23 : decode cX0_plan 23 = .ok (.aload_n 0, 1) := by decide +kernel
theorem dX0_plan_24 : decode cX0_plan 24 = .ok (.getfield 9, 3) := by decide +kernel
theorem dX0_plan_27 : decode cX0_plan 27 = .ok (.getfield 53, 3) := by decide +kernel
theorem dX0_plan_30 : decode cX0_plan 30 = .ok (.istore 4, 2) := by decide +kernel
theorem dX0_plan_32 : decode cX0_plan 32 = .ok (.aload_n 0, 1) := by decide +kernel
theorem dX0_plan_33 : decode cX0_plan 33 = .ok (.getfield 25, 3) := by decide +kernel
theorem dX0_plan_36 : decode cX0_plan 36 = .ok (.iload 4, 2) := by decide +kernel
theorem dX0_plan_38 : decode cX0_plan 38 = .ok (.iconst 0, 1) := by decide +kernel
theorem dX0_plan_39 : decode cX0_plan 39 = .ok (.iastore, 1) := by decide +kernel
theorem dX0_plan_40 : decode cX0_plan 40 = .ok (.aload_n 0, 1) := by decide +kernel
theorem dX0_plan_41 : decode cX0_plan 41 = .ok (.getfield 28, 3) := by decide +kernel
theorem dX0_plan_44 : decode cX0_plan 44 = .ok (.iload 4, 2) := by decide +kernel
theorem dX0_plan_46 : decode cX0_plan 46 = .ok (.iconst 0, 1) := by decide +kernel
theorem dX0_plan_47 : decode cX0_plan 47 = .ok (.iastore, 1) := by decide +kernel
theorem dX0_plan_48 : decode cX0_plan 48 = .ok (.aload_n 0, 1) := by decide +kernel
theorem dX0_plan_49 : decode cX0_plan 49 = .ok (.getfield 31, 3) := by decide +kernel
theorem dX0_plan_52 : decode cX0_plan 52 = .ok (.iload 4, 2) := by decide +kernel
theorem dX0_plan_54 : decode cX0_plan 54 = .ok (.iload 4, 2) := by decide +kernel
theorem dX0_plan_56 : decode cX0_plan 56 = .ok (.iastore, 1) := by decide +kernel
theorem dX0_plan_57 : decode cX0_plan 57 = .ok (.iload 4, 2) := by decide +kernel
theorem dX0_plan_59 : decode cX0_plan 59 = .ok (.iconst 1, 1) := by decide +kernel
theorem dX0_plan_60 : decode cX0_plan 60 = .ok (.isub, 1) := by decide +kernel
theorem dX0_plan_61 : decode cX0_plan 61 = .ok (.istore 5, 2) := by decide +kernel
theorem dX0_plan_63 : decode cX0_plan 63 = .ok (.iload 5, 2) := by decide +kernel
theorem dX0_plan_65 : decode cX0_plan 65 = .ok (.ifCond .lt 15, 3) := by decide +kernel
theorem dX0_plan_68 : decode cX0_plan 68 = .ok (.aload_n 0, 1) := by decide +kernel
theorem dX0_plan_69 : decode cX0_plan 69 = .ok (.iload 5, 2) := by decide +kernel
theorem dX0_plan_71 : decode cX0_plan 71 = .ok (.invokevirtual 58, 3) := by decide +kernel
theorem dX0_plan_74 : decode cX0_plan 74 = .ok (.iinc 5 (-1), 3) := by decide +kernel
theorem dX0_plan_77 : decode cX0_plan 77 = .ok (.goto (-14), 3) := by decide +kernel
theorem dX0_plan_80 : decode cX0_plan 80 = .ok (.return_, 1) := by decide +kernel
theorem dX0_measure_0 : decode cX0_measure 0 = .ok (.iconst 0, 1) := by decide +kernel
theorem dX0_measure_1 : decode cX0_measure 1 = .ok (.istore_n 1, 1) := by decide +kernel
theorem dX0_measure_2 : decode cX0_measure 2 = .ok (.iload_n 1, 1) := by decide +kernel
theorem dX0_measure_3 : decode cX0_measure 3 = .ok (.aload_n 0, 1) := by decide +kernel
theorem dX0_measure_4 : decode cX0_measure 4 = .ok (.getfield 9, 3) := by decide +kernel
theorem dX0_measure_7 : decode cX0_measure 7 = .ok (.getfield 53, 3) := by decide +kernel
theorem dX0_measure_10 : decode cX0_measure 10 = .ok (.if_icmp .ge 78, 3) := by decide +kernel
theorem dX0_measure_13 : decode cX0_measure 13 = .ok (.aload_n 0, 1) := by decide +kernel
theorem dX0_measure_14 : decode cX0_measure 14 = .ok (.getfield 9, 3) := by decide +kernel
theorem dX0_measure_17 : decode cX0_measure 17 = .ok (.iload_n 1, 1) := by decide +kernel
theorem dX0_measure_18 : decode cX0_measure 18 = .ok (.invokevirtual 62, 3) := by decide +kernel
theorem dX0_measure_21 : decode cX0_measure 21 = .ok (.ifCond .eq 39, 3) := by decide +kernel
theorem dX0_measure_24 : decode cX0_measure 24 = .ok (.aload_n 0, 1) := by decide +kernel
theorem dX0_measure_25 : decode cX0_measure 25 = .ok (.getfield 15, 3) := by decide +kernel
theorem dX0_measure_28 : decode cX0_measure 28 = .ok (.iload_n 1, 1) := by decide +kernel
theorem dX0_measure_29 : decode cX0_measure 29 = .ok (.iconst 2, 1) := by decide +kernel
theorem dX0_measure_30 : decode cX0_measure 30 = .ok (.aload_n 0, 1) := by decide +kernel
theorem dX0_measure_31 : decode cX0_measure 31 = .ok (.getfield 9, 3) := by decide +kernel
theorem dX0_measure_34 : decode cX0_measure 34 = .ok (.iload_n 1, 1) := by decide +kernel
theorem dX0_measure_35 : decode cX0_measure 35 = .ok (.invokevirtual 66, 3) := by decide +kernel
theorem dX0_measure_38 : decode cX0_measure 38 = .ok (.iadd, 1) := by decide +kernel
theorem dX0_measure_39 : decode cX0_measure 39 = .ok (.aload_n 0, 1) := by decide +kernel
theorem dX0_measure_40 : decode cX0_measure 40 = .ok (.getfield 9, 3) := by decide +kernel
theorem dX0_measure_43 : decode cX0_measure 43 = .ok (.iload_n 1, 1) := by decide +kernel
theorem dX0_measure_44 : decode cX0_measure 44 = .ok (.invokevirtual 70, 3) := by decide +kernel
theorem dX0_measure_47 : decode cX0_measure 47 = .ok (.ifCond .lt 7, 3) := by decide +kernel
theorem dX0_measure_50 : decode cX0_measure 50 = .ok (.iconst 3, 1) := by decide +kernel
theorem dX0_measure_51 : decode cX0_measure 51 = .ok (.goto 4, 3) := by decide +kernel
theorem dX0_measure_54 : decode cX0_measure 54 = .ok (.iconst 0, 1) := by decide +kernel
theorem dX0_measure_55 : decode cX0_measure 55 = .ok (.iadd, 1) := by decide +kernel
theorem dX0_measure_56 : decode cX0_measure 56 = .ok (.iastore, 1) := by decide +kernel
theorem dX0_measure_57 : decode cX0_measure 57 = .ok (.goto 25, 3) := by decide +kernel
theorem dX0_measure_60 : decode cX0_measure 60 = .ok (.aload_n 0, 1) := by decide +kernel
theorem dX0_measure_61 : decode cX0_measure 61 = .ok (.getfield 15, 3) := by decide +kernel
theorem dX0_measure_64 : decode cX0_measure 64 = .ok (.iload_n 1, 1) := by decide +kernel
theorem dX0_measure_65 : decode cX0_measure 65 = .ok (.aload_n 0, 1) := by decide +kernel
theorem dX0_measure_66 : decode cX0_measure 66 = .ok (.getfield 9, 3) := by decide +kernel
theorem dX0_measure_69 : decode cX0_measure 69 = .ok (.iload_n 1, 1) := by decide +kernel
theorem dX0_measure_70 : decode cX0_measure 70 = .ok (.invokevirtual 73, 3) := by decide +kernel
theorem dX0_measure_73 : decode cX0_measure 73 = .ok (.ifCond .eq 7, 3) := by decide +kernel
theorem dX0_measure_76 : decode cX0_measure 76 = .ok (.iconst 4, 1) := by decide +kernel
theorem dX0_measure_77 : decode cX0_measure 77 = .ok (.goto 4, 3) := by decide +kernel
theorem dX0_measure_80 : decode cX0_measure 80 = .ok (.iconst 0, 1) := by decide +kernel
theorem dX0_measure_81 : decode cX0_measure 81 = .ok (.iastore, 1) := by decide +kernel
theorem dX0_measure_82 : decode cX0_measure 82 = .ok (.iinc 1 1, 3) := by decide +kernel
theorem dX0_measure_85 : decode cX0_measure 85 = .ok (.goto (-83), 3) := by decide +kernel
theorem dX0_measure_88 : decode cX0_measure 88 = .ok (.return_, 1) := by decide +kernel
theorem dX0_timeTurns_0 : decode cX0_timeTurns 0 = .ok (.iconst 0, 1) := by decide +kernel
theorem dX0_timeTurns_1 : decode cX0_timeTurns 1 = .ok (.istore_n 1, 1) := by decide +kernel
theorem dX0_timeTurns_2 : decode cX0_timeTurns 2 = .ok (.iconst 0, 1) := by decide +kernel
theorem dX0_timeTurns_3 : decode cX0_timeTurns 3 = .ok (.istore_n 2, 1) := by decide +kernel
theorem dX0_timeTurns_4 : decode cX0_timeTurns 4 = .ok (.iload_n 2, 1) := by decide +kernel
theorem dX0_timeTurns_5 : decode cX0_timeTurns 5 = .ok (.aload_n 0, 1) := by decide +kernel
theorem dX0_timeTurns_6 : decode cX0_timeTurns 6 = .ok (.getfield 9, 3) := by decide +kernel
theorem dX0_timeTurns_9 : decode cX0_timeTurns 9 = .ok (.getfield 53, 3) := by decide +kernel
theorem dX0_timeTurns_12 : decode cX0_timeTurns 12 = .ok (.if_icmp .ge 42, 3) := by decide +kernel
theorem dX0_timeTurns_15 : decode cX0_timeTurns 15 = .ok (.aload_n 0, 1) := by decide +kernel
theorem dX0_timeTurns_16 : decode cX0_timeTurns 16 = .ok (.getfield 19, 3) := by decide +kernel
theorem dX0_timeTurns_19 : decode cX0_timeTurns 19 = .ok (.iload_n 2, 1) := by decide +kernel
theorem dX0_timeTurns_20 : decode cX0_timeTurns 20 = .ok (.iload_n 1, 1) := by decide +kernel
theorem dX0_timeTurns_21 : decode cX0_timeTurns 21 = .ok (.iastore, 1) := by decide +kernel
theorem dX0_timeTurns_22 : decode cX0_timeTurns 22 = .ok (.aload_n 0, 1) := by decide +kernel
theorem dX0_timeTurns_23 : decode cX0_timeTurns 23 = .ok (.getfield 9, 3) := by decide +kernel
theorem dX0_timeTurns_26 : decode cX0_timeTurns 26 = .ok (.iload_n 2, 1) := by decide +kernel
theorem dX0_timeTurns_27 : decode cX0_timeTurns 27 = .ok (.invokevirtual 76, 3) := by decide +kernel
theorem dX0_timeTurns_30 : decode cX0_timeTurns 30 = .ok (.ifCond .eq 16, 3) := by decide +kernel
theorem dX0_timeTurns_33 : decode cX0_timeTurns 33 = .ok (.iload_n 1, 1) := by decide +kernel
theorem dX0_timeTurns_34 : decode cX0_timeTurns 34 = .ok (.aload_n 0, 1) := by decide +kernel
theorem dX0_timeTurns_35 : decode cX0_timeTurns 35 = .ok (.getfield 9, 3) := by decide +kernel
theorem dX0_timeTurns_38 : decode cX0_timeTurns 38 = .ok (.iload_n 2, 1) := by decide +kernel
theorem dX0_timeTurns_39 : decode cX0_timeTurns 39 = .ok (.invokevirtual 79, 3) := by decide +kernel
theorem dX0_timeTurns_42 : decode cX0_timeTurns 42 = .ok (.iadd, 1) := by decide +kernel
theorem dX0_timeTurns_43 : decode cX0_timeTurns 43 = .ok (.goto 4, 3) := by decide +kernel
theorem dX0_timeTurns_46 : decode cX0_timeTurns 46 = .ok (.iconst 0, 1) := by decide +kernel
theorem dX0_timeTurns_47 : decode cX0_timeTurns 47 = .ok (.istore_n 1, 1) := by decide +kernel
theorem dX0_timeTurns_48 : decode cX0_timeTurns 48 = .ok (.iinc 2 1, 3) := by decide +kernel
theorem dX0_timeTurns_51 : decode cX0_timeTurns 51 = .ok (.goto (-47), 3) := by decide +kernel
theorem dX0_timeTurns_54 : decode cX0_timeTurns 54 = .ok (.iconst 0, 1) := by decide +kernel
theorem dX0_timeTurns_55 : decode cX0_timeTurns 55 = .ok (.istore_n 2, 1) := by decide +kernel
theorem dX0_timeTurns_56 : decode cX0_timeTurns 56 = .ok (.aload_n 0, 1) := by decide +kernel
theorem dX0_timeTurns_57 : decode cX0_timeTurns 57 = .ok (.getfield 9, 3) := by decide +kernel
theorem dX0_timeTurns_60 : decode cX0_timeTurns 60 = .ok (.getfield 53, 3) := by decide +kernel
theorem dX0_timeTurns_63 : decode cX0_timeTurns 63 = .ok (.iconst 1, 1) := by decide +kernel
theorem dX0_timeTurns_64 : decode cX0_timeTurns 64 = .ok (.isub, 1) := by decide +kernel
theorem dX0_timeTurns_65 : decode cX0_timeTurns 65 = .ok (.istore_n 3, 1) := by decide +kernel
theorem dX0_timeTurns_66 : decode cX0_timeTurns 66 = .ok (.iload_n 3, 1) := by decide +kernel
theorem dX0_timeTurns_67 : decode cX0_timeTurns 67 = .ok (.ifCond .lt 45, 3) := by decide +kernel
theorem dX0_timeTurns_70 : decode cX0_timeTurns 70 = .ok (.aload_n 0, 1) := by decide +kernel
theorem dX0_timeTurns_71 : decode cX0_timeTurns 71 = .ok (.getfield 9, 3) := by decide +kernel
theorem dX0_timeTurns_74 : decode cX0_timeTurns 74 = .ok (.iload_n 3, 1) := by decide +kernel
theorem dX0_timeTurns_75 : decode cX0_timeTurns 75 = .ok (.invokevirtual 76, 3) := by decide +kernel
theorem dX0_timeTurns_78 : decode cX0_timeTurns 78 = .ok (.ifCond .eq 16, 3) := by decide +kernel
theorem dX0_timeTurns_81 : decode cX0_timeTurns 81 = .ok (.iload_n 2, 1) := by decide +kernel
theorem dX0_timeTurns_82 : decode cX0_timeTurns 82 = .ok (.aload_n 0, 1) := by decide +kernel
theorem dX0_timeTurns_83 : decode cX0_timeTurns 83 = .ok (.getfield 9, 3) := by decide +kernel
theorem dX0_timeTurns_86 : decode cX0_timeTurns 86 = .ok (.iload_n 3, 1) := by decide +kernel
theorem dX0_timeTurns_87 : decode cX0_timeTurns 87 = .ok (.invokevirtual 79, 3) := by decide +kernel
theorem dX0_timeTurns_90 : decode cX0_timeTurns 90 = .ok (.iadd, 1) := by decide +kernel
theorem dX0_timeTurns_91 : decode cX0_timeTurns 91 = .ok (.goto 4, 3) := by decide +kernel
theorem dX0_timeTurns_94 : decode cX0_timeTurns 94 = .ok (.iconst 0, 1) := by decide +kernel
theorem dX0_timeTurns_95 : decode cX0_timeTurns 95 = .ok (.istore_n 2, 1) := by decide +kernel
theorem dX0_timeTurns_96 : decode cX0_timeTurns 96 = .ok (.aload_n 0, 1) := by decide +kernel
theorem dX0_timeTurns_97 : decode cX0_timeTurns 97 = .ok (.getfield 19, 3) := by decide +kernel
theorem dX0_timeTurns_100 : decode cX0_timeTurns 100 = .ok (.iload_n 3, 1) := by decide +kernel
theorem dX0_timeTurns_101 : decode cX0_timeTurns 101 = .ok (.dup2, 1) := by decide +kernel
theorem dX0_timeTurns_102 : decode cX0_timeTurns 102 = .ok (.iaload, 1) := by decide +kernel
theorem dX0_timeTurns_103 : decode cX0_timeTurns 103 = .ok (.iload_n 2, 1) := by decide +kernel
theorem dX0_timeTurns_104 : decode cX0_timeTurns 104 = .ok (.iadd, 1) := by decide +kernel
theorem dX0_timeTurns_105 : decode cX0_timeTurns 105 = .ok (.iastore, 1) := by decide +kernel
theorem dX0_timeTurns_106 : decode cX0_timeTurns 106 = .ok (.iinc 3 (-1), 3) := by decide +kernel
theorem dX0_timeTurns_109 : decode cX0_timeTurns 109 = .ok (.goto (-43), 3) := by decide +kernel
theorem dX0_timeTurns_112 : decode cX0_timeTurns 112 = .ok (.return_, 1) := by decide +kernel
theorem dX0_widthAsFirst_0 : decode cX0_widthAsFirst 0 = .ok (.aload_n 0, 1) := by decide +kernel
theorem dX0_widthAsFirst_1 : decode cX0_widthAsFirst 1 = .ok (.getfield 9, 3) := by decide +kernel
theorem dX0_widthAsFirst_4 : decode cX0_widthAsFirst 4 = .ok (.iload_n 1, 1) := by decide +kernel
theorem dX0_widthAsFirst_5 : decode cX0_widthAsFirst 5 = .ok (.invokevirtual 76, 3) := by decide +kernel
theorem dX0_widthAsFirst_8 : decode cX0_widthAsFirst 8 = .ok (.ifCond .eq 7, 3) := by decide +kernel
theorem dX0_widthAsFirst_11 : decode cX0_widthAsFirst 11 = .ok (.iconst 4, 1) := by decide +kernel
theorem dX0_widthAsFirst_12 : decode cX0_widthAsFirst 12 = .ok (.goto 9, 3) := by decide +kernel
theorem dX0_widthAsFirst_15 : decode cX0_widthAsFirst 15 = .ok (.aload_n 0, 1) := by decide +kernel
theorem dX0_widthAsFirst_16 : decode cX0_widthAsFirst 16 = .ok (.getfield 15, 3) := by decide +kernel
theorem dX0_widthAsFirst_19 : decode cX0_widthAsFirst 19 = .ok (.iload_n 1, 1) := by decide +kernel
theorem dX0_widthAsFirst_20 : decode cX0_widthAsFirst 20 = .ok (.iaload, 1) := by decide +kernel
theorem dX0_widthAsFirst_21 : decode cX0_widthAsFirst 21 = .ok (.ireturn, 1) := by decide +kernel
theorem dX0_fill_0 : decode cX0_fill 0 = .ok (.aload_n 0, 1) := by decide +kernel
theorem dX0_fill_1 : decode cX0_fill 1 = .ok (.iload_n 1, 1) := by decide +kernel
theorem dX0_fill_2 : decode cX0_fill 2 = .ok (.invokevirtual 82, 3) := by decide +kernel
theorem dX0_fill_5 : decode cX0_fill 5 = .ok (.istore_n 2, 1) := by decide +kernel
theorem dX0_fill_6 : decode cX0_fill 6 = .ok (.iconst 1, 1) := by decide +kernel
theorem dX0_fill_7 : decode cX0_fill 7 = .ok (.istore_n 3, 1) := by decide +kernel
theorem dX0_fill_8 : decode cX0_fill 8 = .ok (.aload_n 0, 1) := by decide +kernel
theorem dX0_fill_9 : decode cX0_fill 9 = .ok (.getfield 22, 3) := by decide +kernel
theorem dX0_fill_12 : decode cX0_fill 12 = .ok (.iload_n 1, 1) := by decide +kernel
theorem dX0_fill_13 : decode cX0_fill 13 = .ok (.iconst 1, 1) := by decide +kernel
theorem dX0_fill_14 : decode cX0_fill 14 = .ok (.iastore, 1) := by decide +kernel
theorem dX0_fill_15 : decode cX0_fill 15 = .ok (.iload_n 1, 1) := by decide +kernel
theorem dX0_fill_16 : decode cX0_fill 16 = .ok (.iconst 1, 1) := by decide +kernel
theorem dX0_fill_17 : decode cX0_fill 17 = .ok (.iadd, 1) := by decide +kernel
theorem dX0_fill_18 : decode cX0_fill 18 = .ok (.istore 4, 2) := by decide +kernel
theorem dX0_fill_20 : decode cX0_fill 20 = .ok (.iload 4, 2) := by decide +kernel
theorem dX0_fill_22 : decode cX0_fill 22 = .ok (.aload_n 0, 1) := by decide +kernel
theorem dX0_fill_23 : decode cX0_fill 23 = .ok (.getfield 9, 3) := by decide +kernel
theorem dX0_fill_26 : decode cX0_fill 26 = .ok (.getfield 53, 3) := by decide +kernel
theorem dX0_fill_29 : decode cX0_fill 29 = .ok (.if_icmp .ge 67, 3) := by decide +kernel
theorem dX0_fill_32 : decode cX0_fill 32 = .ok (.iload_n 2, 1) := by decide +kernel
theorem dX0_fill_33 : decode cX0_fill 33 = .ok (.aload_n 0, 1) := by decide +kernel
theorem dX0_fill_34 : decode cX0_fill 34 = .ok (.getfield 15, 3) := by decide +kernel
theorem dX0_fill_37 : decode cX0_fill 37 = .ok (.iload 4, 2) := by decide +kernel
theorem dX0_fill_39 : decode cX0_fill 39 = .ok (.iaload, 1) := by decide +kernel
theorem dX0_fill_40 : decode cX0_fill 40 = .ok (.iadd, 1) := by decide +kernel
theorem dX0_fill_41 : decode cX0_fill 41 = .ok (.aload_n 0, 1) := by decide +kernel
theorem dX0_fill_42 : decode cX0_fill 42 = .ok (.getfield 37, 3) := by decide +kernel
theorem dX0_fill_45 : decode cX0_fill 45 = .ok (.if_icmp .gt 16, 3) := by decide +kernel
theorem dX0_fill_48 : decode cX0_fill 48 = .ok (.iload_n 2, 1) := by decide +kernel
theorem dX0_fill_49 : decode cX0_fill 49 = .ok (.aload_n 0, 1) := by decide +kernel
theorem dX0_fill_50 : decode cX0_fill 50 = .ok (.getfield 15, 3) := by decide +kernel
theorem dX0_fill_53 : decode cX0_fill 53 = .ok (.iload 4, 2) := by decide +kernel
theorem dX0_fill_55 : decode cX0_fill 55 = .ok (.iaload, 1) := by decide +kernel
theorem dX0_fill_56 : decode cX0_fill 56 = .ok (.iadd, 1) := by decide +kernel
theorem dX0_fill_57 : decode cX0_fill 57 = .ok (.istore_n 2, 1) := by decide +kernel
theorem dX0_fill_58 : decode cX0_fill 58 = .ok (.goto 13, 3) := by decide +kernel
theorem dX0_fill_61 : decode cX0_fill 61 = .ok (.aload_n 0, 1) := by decide +kernel
theorem dX0_fill_62 : decode cX0_fill 62 = .ok (.iload 4, 2) := by decide +kernel
theorem dX0_fill_64 : decode cX0_fill 64 = .ok (.invokevirtual 82, 3) := by decide +kernel
theorem dX0_fill_67 : decode cX0_fill 67 = .ok (.istore_n 2, 1) := by decide +kernel
theorem dX0_fill_68 : decode cX0_fill 68 = .ok (.iinc 3 1, 3) := by decide +kernel
theorem dX0_fill_71 : decode cX0_fill 71 = .ok (.iload_n 3, 1) := by decide +kernel
theorem dX0_fill_72 : decode cX0_fill 72 = .ok (.aload_n 0, 1) := by decide +kernel
theorem dX0_fill_73 : decode cX0_fill 73 = .ok (.getfield 41, 3) := by decide +kernel
theorem dX0_fill_76 : decode cX0_fill 76 = .ok (.if_icmp .le 6, 3) := by decide +kernel
theorem dX0_fill_79 : decode cX0_fill 79 = .ok (.iload 4, 2) := by decide +kernel
theorem dX0_fill_81 : decode cX0_fill 81 = .ok (.ireturn, 1) := by decide +kernel
theorem dX0_fill_82 : decode cX0_fill 82 = .ok (.aload_n 0, 1) := by decide +kernel
theorem dX0_fill_83 : decode cX0_fill 83 = .ok (.getfield 22, 3) := by decide +kernel
theorem dX0_fill_86 : decode cX0_fill 86 = .ok (.iload 4, 2) := by decide +kernel
theorem dX0_fill_88 : decode cX0_fill 88 = .ok (.iload_n 3, 1) := by decide +kernel
theorem dX0_fill_89 : decode cX0_fill 89 = .ok (.iastore, 1) := by decide +kernel
theorem dX0_fill_90 : decode cX0_fill 90 = .ok (.iinc 4 1, 3) := by decide +kernel
theorem dX0_fill_93 : decode cX0_fill 93 = .ok (.goto (-73), 3) := by decide +kernel
theorem dX0_fill_96 : decode cX0_fill 96 = .ok (.aload_n 0, 1) := by decide +kernel
theorem dX0_fill_97 : decode cX0_fill 97 = .ok (.getfield 9, 3) := by decide +kernel
theorem dX0_fill_100 : decode cX0_fill 100 = .ok (.getfield 53, 3) := by decide +kernel
theorem dX0_fill_103 : decode cX0_fill 103 = .ok (.ireturn, 1) := by decide +kernel
theorem dX0_chooseFrom_0 : decode cX0_chooseFrom 0 = .ok (.aload_n 0, 1) := by decide +kernel
theorem dX0_chooseFrom_1 : decode cX0_chooseFrom 1 = .ok (.iload_n 1, 1) := by decide +kernel
theorem dX0_chooseFrom_2 : decode cX0_chooseFrom 2 = .ok (.invokevirtual 85, 3) := by decide +kernel
theorem dX0_chooseFrom_5 : decode cX0_chooseFrom 5 = .ok (.istore_n 2, 1) := by decide +kernel
theorem dX0_chooseFrom_6 : decode cX0_chooseFrom 6 = .ok (.iload_n 1, 1) := by decide +kernel
theorem dX0_chooseFrom_7 : decode cX0_chooseFrom 7 = .ok (.iconst 1, 1) := by decide +kernel
theorem dX0_chooseFrom_8 : decode cX0_chooseFrom 8 = .ok (.iadd, 1) := by decide +kernel
theorem dX0_chooseFrom_9 : decode cX0_chooseFrom 9 = .ok (.istore_n 3, 1) := by decide +kernel
theorem dX0_chooseFrom_10 : decode cX0_chooseFrom 10 = .ok (.iload_n 3, 1) := by decide +kernel
theorem dX0_chooseFrom_11 : decode cX0_chooseFrom 11 = .ok (.iload_n 2, 1) := by decide +kernel
theorem dX0_chooseFrom_12 : decode cX0_chooseFrom 12 = .ok (.if_icmp .gt 130, 3) := by decide +kernel
theorem dX0_chooseFrom_15 : decode cX0_chooseFrom 15 = .ok (.aload_n 0, 1) := by decide +kernel
theorem dX0_chooseFrom_16 : decode cX0_chooseFrom 16 = .ok (.getfield 25, 3) := by decide +kernel
theorem dX0_chooseFrom_19 : decode cX0_chooseFrom 19 = .ok (.iload_n 3, 1) := by decide +kernel
theorem dX0_chooseFrom_20 : decode cX0_chooseFrom 20 = .ok (.iaload, 1) := by decide +kernel
theorem dX0_chooseFrom_21 : decode cX0_chooseFrom 21 = .ok (.aload_n 0, 1) := by decide +kernel
theorem dX0_chooseFrom_22 : decode cX0_chooseFrom 22 = .ok (.iload_n 3, 1) := by decide +kernel
theorem dX0_chooseFrom_23 : decode cX0_chooseFrom 23 = .ok (.invokevirtual 88, 3) := by decide +kernel
theorem dX0_chooseFrom_26 : decode cX0_chooseFrom 26 = .ok (.ifCond .eq 7, 3) := by decide +kernel
theorem dX0_chooseFrom_29 : decode cX0_chooseFrom 29 = .ok (.iconst 1, 1) := by decide +kernel
theorem dX0_chooseFrom_30 : decode cX0_chooseFrom 30 = .ok (.goto 4, 3) := by decide +kernel
theorem dX0_chooseFrom_33 : decode cX0_chooseFrom 33 = .ok (.iconst 0, 1) := by decide +kernel
theorem dX0_chooseFrom_34 : decode cX0_chooseFrom 34 = .ok (.iadd, 1) := by decide +kernel
theorem dX0_chooseFrom_35 : decode cX0_chooseFrom 35 = .ok (.istore 4, 2) := by decide +kernel
theorem dX0_chooseFrom_37 : decode cX0_chooseFrom 37 = .ok (.aload_n 0, 1) := by decide +kernel
theorem dX0_chooseFrom_38 : decode cX0_chooseFrom 38 = .ok (.getfield 28, 3) := by decide +kernel
theorem dX0_chooseFrom_41 : decode cX0_chooseFrom 41 = .ok (.iload_n 3, 1) := by decide +kernel
theorem dX0_chooseFrom_42 : decode cX0_chooseFrom 42 = .ok (.iaload, 1) := by decide +kernel
theorem dX0_chooseFrom_43 : decode cX0_chooseFrom 43 = .ok (.iconst 1, 1) := by decide +kernel
theorem dX0_chooseFrom_44 : decode cX0_chooseFrom 44 = .ok (.iadd, 1) := by decide +kernel
theorem dX0_chooseFrom_45 : decode cX0_chooseFrom 45 = .ok (.istore 5, 2) := by decide +kernel
theorem dX0_chooseFrom_47 : decode cX0_chooseFrom 47 = .ok (.iload_n 3, 1) := by decide +kernel
theorem dX0_chooseFrom_48 : decode cX0_chooseFrom 48 = .ok (.iload_n 1, 1) := by decide +kernel
theorem dX0_chooseFrom_49 : decode cX0_chooseFrom 49 = .ok (.iconst 1, 1) := by decide +kernel
theorem dX0_chooseFrom_50 : decode cX0_chooseFrom 50 = .ok (.iadd, 1) := by decide +kernel
theorem dX0_chooseFrom_51 : decode cX0_chooseFrom 51 = .ok (.if_icmp .eq 36, 3) := by decide +kernel
theorem dX0_chooseFrom_54 : decode cX0_chooseFrom 54 = .ok (.iload 4, 2) := by decide +kernel
theorem dX0_chooseFrom_56 : decode cX0_chooseFrom 56 = .ok (.aload_n 0, 1) := by decide +kernel
theorem dX0_chooseFrom_57 : decode cX0_chooseFrom 57 = .ok (.getfield 25, 3) := by decide +kernel
theorem dX0_chooseFrom_60 : decode cX0_chooseFrom 60 = .ok (.iload_n 1, 1) := by decide +kernel
theorem dX0_chooseFrom_61 : decode cX0_chooseFrom 61 = .ok (.iaload, 1) := by decide +kernel
theorem dX0_chooseFrom_62 : decode cX0_chooseFrom 62 = .ok (.if_icmp .lt 25, 3) := by decide +kernel
theorem dX0_chooseFrom_65 : decode cX0_chooseFrom 65 = .ok (.iload 4, 2) := by decide +kernel
theorem dX0_chooseFrom_67 : decode cX0_chooseFrom 67 = .ok (.aload_n 0, 1) := by decide +kernel
theorem dX0_chooseFrom_68 : decode cX0_chooseFrom 68 = .ok (.getfield 25, 3) := by decide +kernel
theorem dX0_chooseFrom_71 : decode cX0_chooseFrom 71 = .ok (.iload_n 1, 1) := by decide +kernel
theorem dX0_chooseFrom_72 : decode cX0_chooseFrom 72 = .ok (.iaload, 1) := by decide +kernel
theorem dX0_chooseFrom_73 : decode cX0_chooseFrom 73 = .ok (.if_icmp .ne 18, 3) := by decide +kernel
theorem dX0_chooseFrom_76 : decode cX0_chooseFrom 76 = .ok (.iload 5, 2) := by decide +kernel
theorem dX0_chooseFrom_78 : decode cX0_chooseFrom 78 = .ok (.aload_n 0, 1) := by decide +kernel
theorem dX0_chooseFrom_79 : decode cX0_chooseFrom 79 = .ok (.getfield 28, 3) := by decide +kernel
theorem dX0_chooseFrom_82 : decode cX0_chooseFrom 82 = .ok (.iload_n 1, 1) := by decide +kernel
theorem dX0_chooseFrom_83 : decode cX0_chooseFrom 83 = .ok (.iaload, 1) := by decide +kernel
theorem dX0_chooseFrom_84 : decode cX0_chooseFrom 84 = .ok (.if_icmp .ge 7, 3) := by decide +kernel
theorem dX0_chooseFrom_87 : decode cX0_chooseFrom 87 = .ok (.iconst 1, 1) := by decide +kernel
theorem dX0_chooseFrom_88 : decode cX0_chooseFrom 88 = .ok (.goto 4, 3) := by decide +kernel
theorem dX0_chooseFrom_91 : decode cX0_chooseFrom 91 = .ok (.iconst 0, 1) := by decide +kernel
theorem dX0_chooseFrom_92 : decode cX0_chooseFrom 92 = .ok (.istore 6, 2) := by decide +kernel
theorem dX0_chooseFrom_94 : decode cX0_chooseFrom 94 = .ok (.iload 6, 2) := by decide +kernel
theorem dX0_chooseFrom_96 : decode cX0_chooseFrom 96 = .ok (.ifCond .eq 40, 3) := by decide +kernel
theorem dX0_chooseFrom_99 : decode cX0_chooseFrom 99 = .ok (.aload_n 0, 1) := by decide +kernel
theorem dX0_chooseFrom_100 : decode cX0_chooseFrom 100 = .ok (.getfield 25, 3) := by decide +kernel
theorem dX0_chooseFrom_103 : decode cX0_chooseFrom 103 = .ok (.iload_n 1, 1) := by decide +kernel
theorem dX0_chooseFrom_104 : decode cX0_chooseFrom 104 = .ok (.iload 4, 2) := by decide +kernel
theorem dX0_chooseFrom_106 : decode cX0_chooseFrom 106 = .ok (.iastore, 1) := by decide +kernel
theorem dX0_chooseFrom_107 : decode cX0_chooseFrom 107 = .ok (.aload_n 0, 1) := by decide +kernel
theorem dX0_chooseFrom_108 : decode cX0_chooseFrom 108 = .ok (.getfield 28, 3) := by decide +kernel
theorem dX0_chooseFrom_111 : decode cX0_chooseFrom 111 = .ok (.iload_n 1, 1) := by decide +kernel
theorem dX0_chooseFrom_112 : decode cX0_chooseFrom 112 = .ok (.iload 5, 2) := by decide +kernel
theorem dX0_chooseFrom_114 : decode cX0_chooseFrom 114 = .ok (.iastore, 1) := by decide +kernel
theorem dX0_chooseFrom_115 : decode cX0_chooseFrom 115 = .ok (.aload_n 0, 1) := by decide +kernel
theorem dX0_chooseFrom_116 : decode cX0_chooseFrom 116 = .ok (.getfield 31, 3) := by decide +kernel
theorem dX0_chooseFrom_119 : decode cX0_chooseFrom 119 = .ok (.iload_n 1, 1) := by decide +kernel
theorem dX0_chooseFrom_120 : decode cX0_chooseFrom 120 = .ok (.iload_n 3, 1) := by decide +kernel
theorem dX0_chooseFrom_121 : decode cX0_chooseFrom 121 = .ok (.iastore, 1) := by decide +kernel
theorem dX0_chooseFrom_122 : decode cX0_chooseFrom 122 = .ok (.aload_n 0, 1) := by decide +kernel
theorem dX0_chooseFrom_123 : decode cX0_chooseFrom 123 = .ok (.getfield 34, 3) := by decide +kernel
theorem dX0_chooseFrom_126 : decode cX0_chooseFrom 126 = .ok (.iload_n 1, 1) := by decide +kernel
theorem dX0_chooseFrom_127 : decode cX0_chooseFrom 127 = .ok (.aload_n 0, 1) := by decide +kernel
theorem dX0_chooseFrom_128 : decode cX0_chooseFrom 128 = .ok (.getfield 22, 3) := by decide +kernel
theorem dX0_chooseFrom_131 : decode cX0_chooseFrom 131 = .ok (.iload_n 3, 1) := by decide +kernel
theorem dX0_chooseFrom_132 : decode cX0_chooseFrom 132 = .ok (.iconst 1, 1) := by decide +kernel
theorem dX0_chooseFrom_133 : decode cX0_chooseFrom 133 = .ok (.isub, 1) := by decide +kernel
theorem dX0_chooseFrom_134 : decode cX0_chooseFrom 134 = .ok (.iaload, 1) := by decide +kernel
theorem dX0_chooseFrom_135 : decode cX0_chooseFrom 135 = .ok (.iastore, 1) := by decide +kernel
theorem dX0_chooseFrom_136 : decode cX0_chooseFrom 136 = .ok (.iinc 3 1, 3) := by decide +kernel
theorem dX0_chooseFrom_139 : decode cX0_chooseFrom 139 = .ok (.goto (-129), 3) := by decide +kernel
theorem dX0_chooseFrom_142 : decode cX0_chooseFrom 142 = .ok (.return_, 1) := by decide +kernel
theorem dX0_isBadTurn_0 : decode cX0_isBadTurn 0 = .ok (.iload_n 1, 1) := by decide +kernel
theorem dX0_isBadTurn_1 : decode cX0_isBadTurn 1 = .ok (.aload_n 0, 1) := by decide +kernel
theorem dX0_isBadTurn_2 : decode cX0_isBadTurn 2 = .ok (.getfield 9, 3) := by decide +kernel
theorem dX0_isBadTurn_5 : decode cX0_isBadTurn 5 = .ok (.getfield 53, 3) := by decide +kernel
theorem dX0_isBadTurn_8 : decode cX0_isBadTurn 8 = .ok (.if_icmp .ge 20, 3) := by decide +kernel
theorem dX0_isBadTurn_11 : decode cX0_isBadTurn 11 = .ok (.aload_n 0, 1) := by decide +kernel
theorem dX0_isBadTurn_12 : decode cX0_isBadTurn 12 = .ok (.getfield 19, 3) := by decide +kernel
theorem dX0_isBadTurn_15 : decode cX0_isBadTurn 15 = .ok (.iload_n 1, 1) := by decide +kernel
theorem dX0_isBadTurn_16 : decode cX0_isBadTurn 16 = .ok (.iaload, 1) := by decide +kernel
theorem dX0_isBadTurn_17 : decode cX0_isBadTurn 17 = .ok (.aload_n 0, 1) := by decide +kernel
theorem dX0_isBadTurn_18 : decode cX0_isBadTurn 18 = .ok (.getfield 44, 3) := by decide +kernel
theorem dX0_isBadTurn_21 : decode cX0_isBadTurn 21 = .ok (.if_icmp .ge 7, 3) := by decide +kernel
theorem dX0_isBadTurn_24 : decode cX0_isBadTurn 24 = .ok (.iconst 1, 1) := by decide +kernel
theorem dX0_isBadTurn_25 : decode cX0_isBadTurn 25 = .ok (.goto 4, 3) := by decide +kernel
theorem dX0_isBadTurn_28 : decode cX0_isBadTurn 28 = .ok (.iconst 0, 1) := by decide +kernel
theorem dX0_isBadTurn_29 : decode cX0_isBadTurn 29 = .ok (.ireturn, 1) := by decide +kernel
theorem dX0_pageCount_0 : decode cX0_pageCount 0 = .ok (.aload_n 0, 1) := by decide +kernel
theorem dX0_pageCount_1 : decode cX0_pageCount 1 = .ok (.getfield 28, 3) := by decide +kernel
theorem dX0_pageCount_4 : decode cX0_pageCount 4 = .ok (.iconst 0, 1) := by decide +kernel
theorem dX0_pageCount_5 : decode cX0_pageCount 5 = .ok (.iaload, 1) := by decide +kernel
theorem dX0_pageCount_6 : decode cX0_pageCount 6 = .ok (.ireturn, 1) := by decide +kernel
theorem dX0_badTurns_0 : decode cX0_badTurns 0 = .ok (.aload_n 0, 1) := by decide +kernel
theorem dX0_badTurns_1 : decode cX0_badTurns 1 = .ok (.getfield 25, 3) := by decide +kernel
theorem dX0_badTurns_4 : decode cX0_badTurns 4 = .ok (.iconst 0, 1) := by decide +kernel
theorem dX0_badTurns_5 : decode cX0_badTurns 5 = .ok (.iaload, 1) := by decide +kernel
theorem dX0_badTurns_6 : decode cX0_badTurns 6 = .ok (.ireturn, 1) := by decide +kernel
theorem dX0_placeOfPage_0 : decode cX0_placeOfPage 0 = .ok (.iload_n 1, 1) := by decide +kernel
theorem dX0_placeOfPage_1 : decode cX0_placeOfPage 1 = .ok (.aload_n 0, 1) := by decide +kernel
theorem dX0_placeOfPage_2 : decode cX0_placeOfPage 2 = .ok (.invokevirtual 91, 3) := by decide +kernel
theorem dX0_placeOfPage_5 : decode cX0_placeOfPage 5 = .ok (.if_icmp .lt 11, 3) := by decide +kernel
theorem dX0_placeOfPage_8 : decode cX0_placeOfPage 8 = .ok (.aload_n 0, 1) := by decide +kernel
theorem dX0_placeOfPage_9 : decode cX0_placeOfPage 9 = .ok (.getfield 9, 3) := by decide +kernel
theorem dX0_placeOfPage_12 : decode cX0_placeOfPage 12 = .ok (.getfield 53, 3) := by decide +kernel
theorem dX0_placeOfPage_15 : decode cX0_placeOfPage 15 = .ok (.ireturn, 1) := by decide +kernel
theorem dX0_placeOfPage_16 : decode cX0_placeOfPage 16 = .ok (.iconst 0, 1) := by decide +kernel
theorem dX0_placeOfPage_17 : decode cX0_placeOfPage 17 = .ok (.istore_n 2, 1) := by decide +kernel
theorem dX0_placeOfPage_18 : decode cX0_placeOfPage 18 = .ok (.iconst 0, 1) := by decide +kernel
theorem dX0_placeOfPage_19 : decode cX0_placeOfPage 19 = .ok (.istore_n 3, 1) := by decide +kernel
theorem dX0_placeOfPage_20 : decode cX0_placeOfPage 20 = .ok (.iload_n 3, 1) := by decide +kernel
theorem dX0_placeOfPage_21 : decode cX0_placeOfPage 21 = .ok (.iload_n 1, 1) := by decide +kernel
theorem dX0_placeOfPage_22 : decode cX0_placeOfPage 22 = .ok (.if_icmp .ge 16, 3) := by decide +kernel
theorem dX0_placeOfPage_25 : decode cX0_placeOfPage 25 = .ok (.aload_n 0, 1) := by decide +kernel
theorem dX0_placeOfPage_26 : decode cX0_placeOfPage 26 = .ok (.getfield 31, 3) := by decide +kernel
theorem dX0_placeOfPage_29 : decode cX0_placeOfPage 29 = .ok (.iload_n 2, 1) := by decide +kernel
theorem dX0_placeOfPage_30 : decode cX0_placeOfPage 30 = .ok (.iaload, 1) := by decide +kernel
theorem dX0_placeOfPage_31 : decode cX0_placeOfPage 31 = .ok (.istore_n 2, 1) := by decide +kernel
theorem dX0_placeOfPage_32 : decode cX0_placeOfPage 32 = .ok (.iinc 3 1, 3) := by decide +kernel
theorem dX0_placeOfPage_35 : decode cX0_placeOfPage 35 = .ok (.goto (-15), 3) := by decide +kernel
theorem dX0_placeOfPage_38 : decode cX0_placeOfPage 38 = .ok (.iload_n 2, 1) := by decide +kernel
theorem dX0_placeOfPage_39 : decode cX0_placeOfPage 39 = .ok (.ireturn, 1) := by decide +kernel
theorem dX0_firstBar_0 : decode cX0_firstBar 0 = .ok (.aload_n 0, 1) := by decide +kernel
theorem dX0_firstBar_1 : decode cX0_firstBar 1 = .ok (.getfield 9, 3) := by decide +kernel
theorem dX0_firstBar_4 : decode cX0_firstBar 4 = .ok (.aload_n 0, 1) := by decide +kernel
theorem dX0_firstBar_5 : decode cX0_firstBar 5 = .ok (.iload_n 1, 1) := by decide +kernel
theorem dX0_firstBar_6 : decode cX0_firstBar 6 = .ok (.invokevirtual 95, 3) := by decide +kernel
theorem dX0_firstBar_9 : decode cX0_firstBar 9 = .ok (.invokevirtual 98, 3) := by decide +kernel
theorem dX0_firstBar_12 : decode cX0_firstBar 12 = .ok (.ireturn, 1) := by decide +kernel
theorem dX0_freeBehind_0 : decode cX0_freeBehind 0 = .ok (.aload_n 0, 1) := by decide +kernel
theorem dX0_freeBehind_1 : decode cX0_freeBehind 1 = .ok (.getfield 31, 3) := by decide +kernel
theorem dX0_freeBehind_4 : decode cX0_freeBehind 4 = .ok (.aload_n 0, 1) := by decide +kernel
theorem dX0_freeBehind_5 : decode cX0_freeBehind 5 = .ok (.iload_n 1, 1) := by decide +kernel
theorem dX0_freeBehind_6 : decode cX0_freeBehind 6 = .ok (.invokevirtual 95, 3) := by decide +kernel
theorem dX0_freeBehind_9 : decode cX0_freeBehind 9 = .ok (.iaload, 1) := by decide +kernel
theorem dX0_freeBehind_10 : decode cX0_freeBehind 10 = .ok (.istore_n 2, 1) := by decide +kernel
theorem dX0_freeBehind_11 : decode cX0_freeBehind 11 = .ok (.iload_n 2, 1) := by decide +kernel
theorem dX0_freeBehind_12 : decode cX0_freeBehind 12 = .ok (.aload_n 0, 1) := by decide +kernel
theorem dX0_freeBehind_13 : decode cX0_freeBehind 13 = .ok (.getfield 9, 3) := by decide +kernel
theorem dX0_freeBehind_16 : decode cX0_freeBehind 16 = .ok (.getfield 53, 3) := by decide +kernel
theorem dX0_freeBehind_19 : decode cX0_freeBehind 19 = .ok (.if_icmp .ge 12, 3) := by decide +kernel
theorem dX0_freeBehind_22 : decode cX0_freeBehind 22 = .ok (.aload_n 0, 1) := by decide +kernel
theorem dX0_freeBehind_23 : decode cX0_freeBehind 23 = .ok (.getfield 19, 3) := by decide +kernel
theorem dX0_freeBehind_26 : decode cX0_freeBehind 26 = .ok (.iload_n 2, 1) := by decide +kernel
theorem dX0_freeBehind_27 : decode cX0_freeBehind 27 = .ok (.iaload, 1) := by decide +kernel
theorem dX0_freeBehind_28 : decode cX0_freeBehind 28 = .ok (.goto 5, 3) := by decide +kernel
theorem dX0_freeBehind_31 : decode cX0_freeBehind 31 = .ok (.ldc 101, 2) := by decide +kernel
theorem dX0_freeBehind_33 : decode cX0_freeBehind 33 = .ok (.ireturn, 1) := by decide +kernel
theorem dX0_systemsOf_0 : decode cX0_systemsOf 0 = .ok (.aload_n 0, 1) := by decide +kernel
theorem dX0_systemsOf_1 : decode cX0_systemsOf 1 = .ok (.iload_n 1, 1) := by decide +kernel
theorem dX0_systemsOf_2 : decode cX0_systemsOf 2 = .ok (.invokevirtual 95, 3) := by decide +kernel
theorem dX0_systemsOf_5 : decode cX0_systemsOf 5 = .ok (.istore_n 2, 1) := by decide +kernel
theorem dX0_systemsOf_6 : decode cX0_systemsOf 6 = .ok (.iload_n 2, 1) := by decide +kernel
theorem dX0_systemsOf_7 : decode cX0_systemsOf 7 = .ok (.aload_n 0, 1) := by decide +kernel
theorem dX0_systemsOf_8 : decode cX0_systemsOf 8 = .ok (.getfield 9, 3) := by decide +kernel
theorem dX0_systemsOf_11 : decode cX0_systemsOf 11 = .ok (.getfield 53, 3) := by decide +kernel
theorem dX0_systemsOf_14 : decode cX0_systemsOf 14 = .ok (.if_icmp .ge 12, 3) := by decide +kernel
theorem dX0_systemsOf_17 : decode cX0_systemsOf 17 = .ok (.aload_n 0, 1) := by decide +kernel
theorem dX0_systemsOf_18 : decode cX0_systemsOf 18 = .ok (.getfield 34, 3) := by decide +kernel
theorem dX0_systemsOf_21 : decode cX0_systemsOf 21 = .ok (.iload_n 2, 1) := by decide +kernel
theorem dX0_systemsOf_22 : decode cX0_systemsOf 22 = .ok (.iaload, 1) := by decide +kernel
theorem dX0_systemsOf_23 : decode cX0_systemsOf 23 = .ok (.goto 5, 3) := by decide +kernel
theorem dX0_systemsOf_26 : decode cX0_systemsOf 26 = .ok (.ldc 101, 2) := by decide +kernel
theorem dX0_systemsOf_28 : decode cX0_systemsOf 28 = .ok (.ireturn, 1) := by decide +kernel
theorem dX1_init_0 : decode cX1_init 0 = .ok (.aload_n 0, 1) := by decide +kernel
theorem dX1_init_1 : decode cX1_init 1 = .ok (.invokespecial 3, 3) := by decide +kernel
theorem dX1_init_4 : decode cX1_init 4 = .ok (.aload_n 0, 1) := by decide +kernel
theorem dX1_init_5 : decode cX1_init 5 = .ok (.aload_n 1, 1) := by decide +kernel
theorem dX1_init_6 : decode cX1_init 6 = .ok (.putfield 9, 3) := by decide +kernel
theorem dX1_init_9 : decode cX1_init 9 = .ok (.aload_n 0, 1) := by decide +kernel
theorem dX1_init_10 : decode cX1_init 10 = .ok (.bipush 40, 2) := by decide +kernel
theorem dX1_init_12 : decode cX1_init 12 = .ok (.newarray .int, 2) := by decide +kernel
theorem dX1_init_14 : decode cX1_init 14 = .ok (.putfield 15, 3) := by decide +kernel
theorem dX1_init_17 : decode cX1_init 17 = .ok (.aload_n 0, 1) := by decide +kernel
theorem dX1_init_18 : decode cX1_init 18 = .ok (.bipush 40, 2) := by decide +kernel
theorem dX1_init_20 : decode cX1_init 20 = .ok (.newarray .int, 2) := by decide +kernel
theorem dX1_init_22 : decode cX1_init 22 = .ok (.putfield 19, 3) := by decide +kernel
theorem dX1_init_25 : decode cX1_init 25 = .ok (.aload_n 0, 1) := by decide +kernel
theorem dX1_init_26 : decode cX1_init 26 = .ok (.iconst 0, 1) := by decide +kernel
theorem dX1_init_27 : decode cX1_init 27 = .ok (.putfield 22, 3) := by decide +kernel
theorem dX1_init_30 : decode cX1_init 30 = .ok (.aload_n 0, 1) := by decide +kernel
theorem dX1_init_31 : decode cX1_init 31 = .ok (.iconst 0, 1) := by decide +kernel
theorem dX1_init_32 : decode cX1_init 32 = .ok (.putfield 26, 3) := by decide +kernel
theorem dX1_init_35 : decode cX1_init 35 = .ok (.aload_n 0, 1) := by decide +kernel
theorem dX1_init_36 : decode cX1_init 36 = .ok (.iconst 1, 1) := by decide +kernel
theorem dX1_init_37 : decode cX1_init 37 = .ok (.putfield 29, 3) := by decide +kernel
theorem dX1_init_40 : decode cX1_init 40 = .ok (.return_, 1) := by decide +kernel
theorem dX1_draw_0 : decode cX1_draw 0 = .ok (.aload_n 0, 1) := by decide +kernel
theorem dX1_draw_1 : decode cX1_draw 1 = .ok (.iload_n 1, 1) := by decide +kernel
theorem dX1_draw_2 : decode cX1_draw 2 = .ok (.putfield 26, 3) := by decide +kernel
theorem dX1_draw_5 : decode cX1_draw 5 = .ok (.aload_n 0, 1) := by decide +kernel
theorem dX1_draw_6 : decode cX1_draw 6 = .ok (.iload_n 2, 1) := by decide +kernel
theorem dX1_draw_7 : decode cX1_draw 7 = .ok (.putfield 29, 3) := by decide +kernel
theorem dX1_draw_10 : decode cX1_draw 10 = .ok (.aload_n 0, 1) := by decide +kernel
theorem dX1_draw_11 : decode cX1_draw 11 = .ok (.iconst 0, 1) := by decide +kernel
theorem dX1_draw_12 : decode cX1_draw 12 = .ok (.putfield 22, 3) := by decide +kernel
theorem dX1_draw_15 : decode cX1_draw 15 = .ok (.aload_n 0, 1) := by decide +kernel
theorem dX1_draw_16 : decode cX1_draw 16 = .ok (.getfield 9, 3) := by decide +kernel
theorem dX1_draw_19 : decode cX1_draw 19 = .ok (.iload_n 1, 1) := by decide +kernel
theorem dX1_draw_20 : decode cX1_draw 20 = .ok (.invokevirtual 32, 3) := by decide +kernel
theorem dX1_draw_23 : decode cX1_draw 23 = .ok (.astore_n 3, 1) := by decide +kernel
theorem dX1_draw_24 : decode cX1_draw 24 = .ok (.aload_n 3, 1) := by decide +kernel
theorem dX1_draw_25 : decode cX1_draw 25 = .ok (.ifnonnull 4, 3) := by decide +kernel
theorem dX1_draw_28 : decode cX1_draw 28 = .ok (.return_, 1) := by decide +kernel
theorem dX1_draw_29 : decode cX1_draw 29 = .ok (.iconst 0, 1) := by decide +kernel
theorem dX1_draw_30 : decode cX1_draw 30 = .ok (.istore 4, 2) := by decide +kernel
theorem dX1_draw_32 : decode cX1_draw 32 = .ok (.iload 4, 2) := by decide +kernel
theorem dX1_draw_34 : decode cX1_draw 34 = .ok (.bipush 40, 2) := by decide +kernel
theorem dX1_draw_36 : decode cX1_draw 36 = .ok (.if_icmp .ge 58, 3) := by decide +kernel
theorem dX1_draw_39 : decode cX1_draw 39 = .ok (.aload_n 0, 1) := by decide +kernel
theorem dX1_draw_40 : decode cX1_draw 40 = .ok (.getfield 9, 3) := by decide +kernel
theorem dX1_draw_43 : decode cX1_draw 43 = .ok (.iload 4, 2) := by decide +kernel
theorem dX1_draw_45 : decode cX1_draw 45 = .ok (.invokevirtual 38, 3) := by decide +kernel
theorem dX1_draw_48 : decode cX1_draw 48 = .ok (.ifCond .eq 40, 3) := by decide +kernel
theorem dX1_draw_51 : decode cX1_draw 51 = .ok (.aload_n 0, 1) := by decide +kernel
theorem dX1_draw_52 : decode cX1_draw 52 = .ok (.getfield 15, 3) := by decide +kernel
theorem dX1_draw_55 : decode cX1_draw 55 = .ok (.aload_n 0, 1) := by decide +kernel
theorem dX1_draw_56 : decode cX1_draw 56 = .ok (.getfield 22, 3) := by decide +kernel
theorem dX1_draw_59 : decode cX1_draw 59 = .ok (.iload 4, 2) := by decide +kernel
theorem dX1_draw_61 : decode cX1_draw 61 = .ok (.iastore, 1) := by decide +kernel
theorem dX1_draw_62 : decode cX1_draw 62 = .ok (.aload_n 0, 1) := by decide +kernel
theorem dX1_draw_63 : decode cX1_draw 63 = .ok (.getfield 19, 3) := by decide +kernel
theorem dX1_draw_66 : decode cX1_draw 66 = .ok (.aload_n 0, 1) := by decide +kernel
theorem dX1_draw_67 : decode cX1_draw 67 = .ok (.getfield 22, 3) := by decide +kernel
theorem dX1_draw_70 : decode cX1_draw 70 = .ok (.aload_n 3, 1) := by decide +kernel
theorem dX1_draw_71 : decode cX1_draw 71 = .ok (.getfield 42, 3) := by decide +kernel
theorem dX1_draw_74 : decode cX1_draw 74 = .ok (.iload 4, 2) := by decide +kernel
theorem dX1_draw_76 : decode cX1_draw 76 = .ok (.iaload, 1) := by decide +kernel
theorem dX1_draw_77 : decode cX1_draw 77 = .ok (.iastore, 1) := by decide +kernel
theorem dX1_draw_78 : decode cX1_draw 78 = .ok (.aload_n 0, 1) := by decide +kernel
theorem dX1_draw_79 : decode cX1_draw 79 = .ok (.dup, 1) := by decide +kernel
theorem dX1_draw_80 : decode cX1_draw 80 = .ok (.getfield 22, 3) := by decide +kernel
theorem dX1_draw_83 : decode cX1_draw 83 = .ok (.iconst 1, 1) := by decide +kernel
theorem dX1_draw_84 : decode cX1_draw 84 = .ok (.iadd, 1) := by decide +kernel
theorem dX1_draw_85 : decode cX1_draw 85 = .ok (.putfield 22, 3) := by decide +kernel
theorem dX1_draw_88 : decode cX1_draw 88 = .ok (.iinc 4 1, 3) := by decide +kernel
theorem dX1_draw_91 : decode cX1_draw 91 = .ok (.goto (-59), 3) := by decide +kernel
theorem dX1_draw_94 : decode cX1_draw 94 = .ok (.return_, 1) := by decide +kernel
theorem dX1_has_0 : decode cX1_has 0 = .ok (.iload_n 1, 1) := by decide +kernel
theorem dX1_has_1 : decode cX1_has 1 = .ok (.ifCond .lt 15, 3) := by decide +kernel
theorem dX1_has_4 : decode cX1_has 4 = .ok (.iload_n 1, 1) := by decide +kernel
theorem dX1_has_5 : decode cX1_has 5 = .ok (.aload_n 0, 1) := by decide +kernel
theorem dX1_has_6 : decode cX1_has 6 = .ok (.getfield 22, 3) := by decide +kernel
theorem dX1_has_9 : decode cX1_has 9 = .ok (.if_icmp .ge 7, 3) := by decide +kernel
theorem dX1_has_12 : decode cX1_has 12 = .ok (.iconst 1, 1) := by decide +kernel
theorem dX1_has_13 : decode cX1_has 13 = .ok (.goto 4, 3) := by decide +kernel
theorem dX1_has_16 : decode cX1_has 16 = .ok (.iconst 0, 1) := by decide +kernel
theorem dX1_has_17 : decode cX1_has 17 = .ok (.ireturn, 1) := by decide +kernel
theorem dX1_rests_0 : decode cX1_rests 0 = .ok (.iload_n 1, 1) := by decide +kernel
theorem dX1_rests_1 : decode cX1_rests 1 = .ok (.ifCond .lt 24, 3) := by decide +kernel
theorem dX1_rests_4 : decode cX1_rests 4 = .ok (.iload_n 1, 1) := by decide +kernel
theorem dX1_rests_5 : decode cX1_rests 5 = .ok (.aload_n 0, 1) := by decide +kernel
theorem dX1_rests_6 : decode cX1_rests 6 = .ok (.getfield 22, 3) := by decide +kernel
theorem dX1_rests_9 : decode cX1_rests 9 = .ok (.if_icmp .ge 16, 3) := by decide +kernel
theorem dX1_rests_12 : decode cX1_rests 12 = .ok (.aload_n 0, 1) := by decide +kernel
theorem dX1_rests_13 : decode cX1_rests 13 = .ok (.getfield 19, 3) := by decide +kernel
theorem dX1_rests_16 : decode cX1_rests 16 = .ok (.iload_n 1, 1) := by decide +kernel
theorem dX1_rests_17 : decode cX1_rests 17 = .ok (.iaload, 1) := by decide +kernel
theorem dX1_rests_18 : decode cX1_rests 18 = .ok (.ifCond .ne 7, 3) := by decide +kernel
theorem dX1_rests_21 : decode cX1_rests 21 = .ok (.iconst 1, 1) := by decide +kernel
theorem dX1_rests_22 : decode cX1_rests 22 = .ok (.goto 4, 3) := by decide +kernel
theorem dX1_rests_25 : decode cX1_rests 25 = .ok (.iconst 0, 1) := by decide +kernel
theorem dX1_rests_26 : decode cX1_rests 26 = .ok (.ireturn, 1) := by decide +kernel
theorem dX1_plays_0 : decode cX1_plays 0 = .ok (.iload_n 1, 1) := by decide +kernel
theorem dX1_plays_1 : decode cX1_plays 1 = .ok (.ifCond .lt 24, 3) := by decide +kernel
theorem dX1_plays_4 : decode cX1_plays 4 = .ok (.iload_n 1, 1) := by decide +kernel
theorem dX1_plays_5 : decode cX1_plays 5 = .ok (.aload_n 0, 1) := by decide +kernel
theorem dX1_plays_6 : decode cX1_plays 6 = .ok (.getfield 22, 3) := by decide +kernel
theorem dX1_plays_9 : decode cX1_plays 9 = .ok (.if_icmp .ge 16, 3) := by decide +kernel
theorem dX1_plays_12 : decode cX1_plays 12 = .ok (.aload_n 0, 1) := by decide +kernel
theorem dX1_plays_13 : decode cX1_plays 13 = .ok (.getfield 19, 3) := by decide +kernel
theorem dX1_plays_16 : decode cX1_plays 16 = .ok (.iload_n 1, 1) := by decide +kernel
theorem dX1_plays_17 : decode cX1_plays 17 = .ok (.iaload, 1) := by decide +kernel
theorem dX1_plays_18 : decode cX1_plays 18 = .ok (.ifCond .le 7, 3) := by decide +kernel
theorem dX1_plays_21 : decode cX1_plays 21 = .ok (.iconst 1, 1) := by decide +kernel
theorem dX1_plays_22 : decode cX1_plays 22 = .ok (.goto 4, 3) := by decide +kernel
theorem dX1_plays_25 : decode cX1_plays 25 = .ok (.iconst 0, 1) := by decide +kernel
theorem dX1_plays_26 : decode cX1_plays 26 = .ok (.ireturn, 1) := by decide +kernel
theorem dX1_bears_0 : decode cX1_bears 0 = .ok (.aload_n 0, 1) := by decide +kernel
theorem dX1_bears_1 : decode cX1_bears 1 = .ok (.iload_n 1, 1) := by decide +kernel
theorem dX1_bears_2 : decode cX1_bears 2 = .ok (.invokevirtual 45, 3) := by decide +kernel
theorem dX1_bears_5 : decode cX1_bears 5 = .ok (.ifCond .eq 26, 3) := by decide +kernel
theorem dX1_bears_8 : decode cX1_bears 8 = .ok (.aload_n 0, 1) := by decide +kernel
theorem dX1_bears_9 : decode cX1_bears 9 = .ok (.getfield 9, 3) := by decide +kernel
theorem dX1_bears_12 : decode cX1_bears 12 = .ok (.getfield 48, 3) := by decide +kernel
theorem dX1_bears_15 : decode cX1_bears 15 = .ok (.aload_n 0, 1) := by decide +kernel
theorem dX1_bears_16 : decode cX1_bears 16 = .ok (.getfield 15, 3) := by decide +kernel
theorem dX1_bears_19 : decode cX1_bears 19 = .ok (.iload_n 1, 1) := by decide +kernel
theorem dX1_bears_20 : decode cX1_bears 20 = .ok (.iaload, 1) := by decide +kernel
theorem dX1_bears_21 : decode cX1_bears 21 = .ok (.iaload, 1) := by decide +kernel
theorem dX1_bears_22 : decode cX1_bears 22 = .ok (.iload_n 2, 1) := by decide +kernel
theorem dX1_bears_23 : decode cX1_bears 23 = .ok (.iand, 1) := by decide +kernel
theorem dX1_bears_24 : decode cX1_bears 24 = .ok (.ifCond .eq 7, 3) := by decide +kernel
theorem dX1_bears_27 : decode cX1_bears 27 = .ok (.iconst 1, 1) := by decide +kernel
theorem dX1_bears_28 : decode cX1_bears 28 = .ok (.goto 4, 3) := by decide +kernel
theorem dX1_bears_31 : decode cX1_bears 31 = .ok (.iconst 0, 1) := by decide +kernel
theorem dX1_bears_32 : decode cX1_bears 32 = .ok (.ireturn, 1) := by decide +kernel
theorem dX1_opensRests_0 : decode cX1_opensRests 0 = .ok (.aload_n 0, 1) := by decide +kernel
theorem dX1_opensRests_1 : decode cX1_opensRests 1 = .ok (.iload_n 1, 1) := by decide +kernel
theorem dX1_opensRests_2 : decode cX1_opensRests 2 = .ok (.invokevirtual 51, 3) := by decide +kernel
theorem dX1_opensRests_5 : decode cX1_opensRests 5 = .ok (.ifCond .ne 5, 3) := by decide +kernel
theorem dX1_opensRests_8 : decode cX1_opensRests 8 = .ok (.iconst 0, 1) := by decide +kernel
theorem dX1_opensRests_9 : decode cX1_opensRests 9 = .ok (.ireturn, 1) := by decide +kernel
theorem dX1_opensRests_10 : decode cX1_opensRests 10 = .ok (.aload_n 0, 1) := by decide +kernel
theorem dX1_opensRests_11 : decode cX1_opensRests 11 = .ok (.iload_n 1, 1) := by decide +kernel
theorem dX1_opensRests_12 : decode cX1_opensRests 12 = .ok (.iconst 1, 1) := by decide +kernel
theorem dX1_opensRests_13 : decode cX1_opensRests 13 = .ok (.isub, 1) := by decide +kernel
theorem dX1_opensRests_14 : decode cX1_opensRests 14 = .ok (.invokevirtual 51, 3) := by decide +kernel
theorem dX1_opensRests_17 : decode cX1_opensRests 17 = .ok (.ifCond .eq 23, 3) := by decide +kernel
theorem dX1_opensRests_20 : decode cX1_opensRests 20 = .ok (.aload_n 0, 1) := by decide +kernel
theorem dX1_opensRests_21 : decode cX1_opensRests 21 = .ok (.iload_n 1, 1) := by decide +kernel
theorem dX1_opensRests_22 : decode cX1_opensRests 22 = .ok (.iconst 3, 1) := by decide +kernel
theorem dX1_opensRests_23 : decode cX1_opensRests 23 = .ok (.invokevirtual 54, 3) := by decide +kernel
theorem dX1_opensRests_26 : decode cX1_opensRests 26 = .ok (.ifCond .ne 14, 3) := by decide +kernel
theorem dX1_opensRests_29 : decode cX1_opensRests 29 = .ok (.aload_n 0, 1) := by decide +kernel
theorem dX1_opensRests_30 : decode cX1_opensRests 30 = .ok (.iload_n 1, 1) := by decide +kernel
theorem dX1_opensRests_31 : decode cX1_opensRests 31 = .ok (.iconst 1, 1) := by decide +kernel
theorem dX1_opensRests_32 : decode cX1_opensRests 32 = .ok (.isub, 1) := by decide +kernel
theorem dX1_opensRests_33 : decode cX1_opensRests 33 = .ok (.iconst 1, 1) := by decide +kernel
theorem dX1_opensRests_34 : decode cX1_opensRests 34 = .ok (.invokevirtual 54, 3) := by decide +kernel
theorem dX1_opensRests_37 : decode cX1_opensRests 37 = .ok (.ifCond .eq 7, 3) := by decide +kernel
theorem dX1_opensRests_40 : decode cX1_opensRests 40 = .ok (.iconst 1, 1) := by decide +kernel
theorem dX1_opensRests_41 : decode cX1_opensRests 41 = .ok (.goto 4, 3) := by decide +kernel
theorem dX1_opensRests_44 : decode cX1_opensRests 44 = .ok (.iconst 0, 1) := by decide +kernel
theorem dX1_opensRests_45 : decode cX1_opensRests 45 = .ok (.ireturn, 1) := by decide +kernel
theorem dX1_restsLength_0 : decode cX1_restsLength 0 = .ok (.iconst 1, 1) := by decide +kernel
theorem dX1_restsLength_1 : decode cX1_restsLength 1 = .ok (.istore_n 2, 1) := by decide +kernel
theorem dX1_restsLength_2 : decode cX1_restsLength 2 = .ok (.iload_n 1, 1) := by decide +kernel
theorem dX1_restsLength_3 : decode cX1_restsLength 3 = .ok (.iconst 1, 1) := by decide +kernel
theorem dX1_restsLength_4 : decode cX1_restsLength 4 = .ok (.iadd, 1) := by decide +kernel
theorem dX1_restsLength_5 : decode cX1_restsLength 5 = .ok (.istore_n 3, 1) := by decide +kernel
theorem dX1_restsLength_6 : decode cX1_restsLength 6 = .ok (.iload_n 3, 1) := by decide +kernel
theorem dX1_restsLength_7 : decode cX1_restsLength 7 = .ok (.aload_n 0, 1) := by decide +kernel
theorem dX1_restsLength_8 : decode cX1_restsLength 8 = .ok (.getfield 22, 3) := by decide +kernel
theorem dX1_restsLength_11 : decode cX1_restsLength 11 = .ok (.if_icmp .ge 28, 3) := by decide +kernel
theorem dX1_restsLength_14 : decode cX1_restsLength 14 = .ok (.aload_n 0, 1) := by decide +kernel
theorem dX1_restsLength_15 : decode cX1_restsLength 15 = .ok (.iload_n 3, 1) := by decide +kernel
theorem dX1_restsLength_16 : decode cX1_restsLength 16 = .ok (.invokevirtual 51, 3) := by decide +kernel
theorem dX1_restsLength_19 : decode cX1_restsLength 19 = .ok (.ifCond .eq 20, 3) := by decide +kernel
theorem dX1_restsLength_22 : decode cX1_restsLength 22 = .ok (.aload_n 0, 1) := by decide +kernel
theorem dX1_restsLength_23 : decode cX1_restsLength 23 = .ok (.iload_n 3, 1) := by decide +kernel
theorem dX1_restsLength_24 : decode cX1_restsLength 24 = .ok (.invokevirtual 58, 3) := by decide +kernel
theorem dX1_restsLength_27 : decode cX1_restsLength 27 = .ok (.ifCond .ne 12, 3) := by decide +kernel
theorem dX1_restsLength_30 : decode cX1_restsLength 30 = .ok (.iinc 2 1, 3) := by decide +kernel
theorem dX1_restsLength_33 : decode cX1_restsLength 33 = .ok (.iinc 3 1, 3) := by decide +kernel
theorem dX1_restsLength_36 : decode cX1_restsLength 36 = .ok (.goto (-30), 3) := by decide +kernel
theorem dX1_restsLength_39 : decode cX1_restsLength 39 = .ok (.iload_n 2, 1) := by decide +kernel
theorem dX1_restsLength_40 : decode cX1_restsLength 40 = .ok (.ireturn, 1) := by decide +kernel
theorem dX1_restsAt_0 : decode cX1_restsAt 0 = .ok (.iload_n 1, 1) := by decide +kernel
theorem dX1_restsAt_1 : decode cX1_restsAt 1 = .ok (.istore_n 2, 1) := by decide +kernel
theorem dX1_restsAt_2 : decode cX1_restsAt 2 = .ok (.iconst 0, 1) := by decide +kernel
theorem dX1_restsAt_3 : decode cX1_restsAt 3 = .ok (.istore_n 3, 1) := by decide +kernel
theorem dX1_restsAt_4 : decode cX1_restsAt 4 = .ok (.iload_n 3, 1) := by decide +kernel
theorem dX1_restsAt_5 : decode cX1_restsAt 5 = .ok (.aload_n 0, 1) := by decide +kernel
theorem dX1_restsAt_6 : decode cX1_restsAt 6 = .ok (.getfield 22, 3) := by decide +kernel
theorem dX1_restsAt_9 : decode cX1_restsAt 9 = .ok (.if_icmp .ge 40, 3) := by decide +kernel
theorem dX1_restsAt_12 : decode cX1_restsAt 12 = .ok (.aload_n 0, 1) := by decide +kernel
theorem dX1_restsAt_13 : decode cX1_restsAt 13 = .ok (.iload_n 3, 1) := by decide +kernel
theorem dX1_restsAt_14 : decode cX1_restsAt 14 = .ok (.invokevirtual 58, 3) := by decide +kernel
theorem dX1_restsAt_17 : decode cX1_restsAt 17 = .ok (.ifCond .eq 26, 3) := by decide +kernel
theorem dX1_restsAt_20 : decode cX1_restsAt 20 = .ok (.iload_n 2, 1) := by decide +kernel
theorem dX1_restsAt_21 : decode cX1_restsAt 21 = .ok (.ifCond .ne 19, 3) := by decide +kernel
theorem dX1_restsAt_24 : decode cX1_restsAt 24 = .ok (.bipush 100, 2) := by decide +kernel
theorem dX1_restsAt_26 : decode cX1_restsAt 26 = .ok (.aload_n 0, 1) := by decide +kernel
theorem dX1_restsAt_27 : decode cX1_restsAt 27 = .ok (.getfield 15, 3) := by decide +kernel
theorem dX1_restsAt_30 : decode cX1_restsAt 30 = .ok (.iload_n 3, 1) := by decide +kernel
theorem dX1_restsAt_31 : decode cX1_restsAt 31 = .ok (.iaload, 1) := by decide +kernel
theorem dX1_restsAt_32 : decode cX1_restsAt 32 = .ok (.imul, 1) := by decide +kernel
theorem dX1_restsAt_33 : decode cX1_restsAt 33 = .ok (.aload_n 0, 1) := by decide +kernel
theorem dX1_restsAt_34 : decode cX1_restsAt 34 = .ok (.iload_n 3, 1) := by decide +kernel
theorem dX1_restsAt_35 : decode cX1_restsAt 35 = .ok (.invokevirtual 61, 3) := by decide +kernel
theorem dX1_restsAt_38 : decode cX1_restsAt 38 = .ok (.iadd, 1) := by decide +kernel
theorem dX1_restsAt_39 : decode cX1_restsAt 39 = .ok (.ireturn, 1) := by decide +kernel
theorem dX1_restsAt_40 : decode cX1_restsAt 40 = .ok (.iinc 2 (-1), 3) := by decide +kernel
theorem dX1_restsAt_43 : decode cX1_restsAt 43 = .ok (.iinc 3 1, 3) := by decide +kernel
theorem dX1_restsAt_46 : decode cX1_restsAt 46 = .ok (.goto (-42), 3) := by decide +kernel
theorem dX1_restsAt_49 : decode cX1_restsAt 49 = .ok (.ldc 65, 2) := by decide +kernel
theorem dX1_restsAt_51 : decode cX1_restsAt 51 = .ok (.ireturn, 1) := by decide +kernel
theorem dX1_placeOf_0 : decode cX1_placeOf 0 = .ok (.iconst 0, 1) := by decide +kernel
theorem dX1_placeOf_1 : decode cX1_placeOf 1 = .ok (.istore_n 2, 1) := by decide +kernel
theorem dX1_placeOf_2 : decode cX1_placeOf 2 = .ok (.iload_n 2, 1) := by decide +kernel
theorem dX1_placeOf_3 : decode cX1_placeOf 3 = .ok (.aload_n 0, 1) := by decide +kernel
theorem dX1_placeOf_4 : decode cX1_placeOf 4 = .ok (.getfield 22, 3) := by decide +kernel
theorem dX1_placeOf_7 : decode cX1_placeOf 7 = .ok (.if_icmp .ge 21, 3) := by decide +kernel
theorem dX1_placeOf_10 : decode cX1_placeOf 10 = .ok (.aload_n 0, 1) := by decide +kernel
theorem dX1_placeOf_11 : decode cX1_placeOf 11 = .ok (.getfield 15, 3) := by decide +kernel
theorem dX1_placeOf_14 : decode cX1_placeOf 14 = .ok (.iload_n 2, 1) := by decide +kernel
theorem dX1_placeOf_15 : decode cX1_placeOf 15 = .ok (.iaload, 1) := by decide +kernel
theorem dX1_placeOf_16 : decode cX1_placeOf 16 = .ok (.iload_n 1, 1) := by decide +kernel
theorem dX1_placeOf_17 : decode cX1_placeOf 17 = .ok (.if_icmp .ne 5, 3) := by decide +kernel
theorem dX1_placeOf_20 : decode cX1_placeOf 20 = .ok (.iload_n 2, 1) := by decide +kernel
theorem dX1_placeOf_21 : decode cX1_placeOf 21 = .ok (.ireturn, 1) := by decide +kernel
theorem dX1_placeOf_22 : decode cX1_placeOf 22 = .ok (.iinc 2 1, 3) := by decide +kernel
theorem dX1_placeOf_25 : decode cX1_placeOf 25 = .ok (.goto (-23), 3) := by decide +kernel
theorem dX1_placeOf_28 : decode cX1_placeOf 28 = .ok (.iconst (-1), 1) := by decide +kernel
theorem dX1_placeOf_29 : decode cX1_placeOf 29 = .ok (.ireturn, 1) := by decide +kernel
theorem dX1_barAt_0 : decode cX1_barAt 0 = .ok (.aload_n 0, 1) := by decide +kernel
theorem dX1_barAt_1 : decode cX1_barAt 1 = .ok (.iload_n 1, 1) := by decide +kernel
theorem dX1_barAt_2 : decode cX1_barAt 2 = .ok (.invokevirtual 45, 3) := by decide +kernel
theorem dX1_barAt_5 : decode cX1_barAt 5 = .ok (.ifCond .eq 12, 3) := by decide +kernel
theorem dX1_barAt_8 : decode cX1_barAt 8 = .ok (.aload_n 0, 1) := by decide +kernel
theorem dX1_barAt_9 : decode cX1_barAt 9 = .ok (.getfield 15, 3) := by decide +kernel
theorem dX1_barAt_12 : decode cX1_barAt 12 = .ok (.iload_n 1, 1) := by decide +kernel
theorem dX1_barAt_13 : decode cX1_barAt 13 = .ok (.iaload, 1) := by decide +kernel
theorem dX1_barAt_14 : decode cX1_barAt 14 = .ok (.goto 5, 3) := by decide +kernel
theorem dX1_barAt_17 : decode cX1_barAt 17 = .ok (.ldc 65, 2) := by decide +kernel
theorem dX1_barAt_19 : decode cX1_barAt 19 = .ok (.ireturn, 1) := by decide +kernel
theorem dX1_secondsAt_0 : decode cX1_secondsAt 0 = .ok (.aload_n 0, 1) := by decide +kernel
theorem dX1_secondsAt_1 : decode cX1_secondsAt 1 = .ok (.iload_n 1, 1) := by decide +kernel
theorem dX1_secondsAt_2 : decode cX1_secondsAt 2 = .ok (.invokevirtual 45, 3) := by decide +kernel
theorem dX1_secondsAt_5 : decode cX1_secondsAt 5 = .ok (.ifCond .eq 20, 3) := by decide +kernel
theorem dX1_secondsAt_8 : decode cX1_secondsAt 8 = .ok (.aload_n 0, 1) := by decide +kernel
theorem dX1_secondsAt_9 : decode cX1_secondsAt 9 = .ok (.getfield 9, 3) := by decide +kernel
theorem dX1_secondsAt_12 : decode cX1_secondsAt 12 = .ok (.getfield 66, 3) := by decide +kernel
theorem dX1_secondsAt_15 : decode cX1_secondsAt 15 = .ok (.aload_n 0, 1) := by decide +kernel
theorem dX1_secondsAt_16 : decode cX1_secondsAt 16 = .ok (.getfield 15, 3) := by decide +kernel
theorem dX1_secondsAt_19 : decode cX1_secondsAt 19 = .ok (.iload_n 1, 1) := by decide +kernel
theorem dX1_secondsAt_20 : decode cX1_secondsAt 20 = .ok (.iaload, 1) := by decide +kernel
theorem dX1_secondsAt_21 : decode cX1_secondsAt 21 = .ok (.iaload, 1) := by decide +kernel
theorem dX1_secondsAt_22 : decode cX1_secondsAt 22 = .ok (.goto 4, 3) := by decide +kernel
theorem dX1_secondsAt_25 : decode cX1_secondsAt 25 = .ok (.iconst 0, 1) := by decide +kernel
theorem dX1_secondsAt_26 : decode cX1_secondsAt 26 = .ok (.ireturn, 1) := by decide +kernel
theorem dX1_notesAt_0 : decode cX1_notesAt 0 = .ok (.aload_n 0, 1) := by decide +kernel
theorem dX1_notesAt_1 : decode cX1_notesAt 1 = .ok (.iload_n 1, 1) := by decide +kernel
theorem dX1_notesAt_2 : decode cX1_notesAt 2 = .ok (.invokevirtual 45, 3) := by decide +kernel
theorem dX1_notesAt_5 : decode cX1_notesAt 5 = .ok (.ifCond .eq 12, 3) := by decide +kernel
theorem dX1_notesAt_8 : decode cX1_notesAt 8 = .ok (.aload_n 0, 1) := by decide +kernel
theorem dX1_notesAt_9 : decode cX1_notesAt 9 = .ok (.getfield 19, 3) := by decide +kernel
theorem dX1_notesAt_12 : decode cX1_notesAt 12 = .ok (.iload_n 1, 1) := by decide +kernel
theorem dX1_notesAt_13 : decode cX1_notesAt 13 = .ok (.iaload, 1) := by decide +kernel
theorem dX1_notesAt_14 : decode cX1_notesAt 14 = .ok (.goto 4, 3) := by decide +kernel
theorem dX1_notesAt_17 : decode cX1_notesAt 17 = .ok (.iconst 0, 1) := by decide +kernel
theorem dX1_notesAt_18 : decode cX1_notesAt 18 = .ok (.ireturn, 1) := by decide +kernel
theorem dX1_cueAt_0 : decode cX1_cueAt 0 = .ok (.aload_n 0, 1) := by decide +kernel
theorem dX1_cueAt_1 : decode cX1_cueAt 1 = .ok (.iload_n 1, 1) := by decide +kernel
theorem dX1_cueAt_2 : decode cX1_cueAt 2 = .ok (.invokevirtual 69, 3) := by decide +kernel
theorem dX1_cueAt_5 : decode cX1_cueAt 5 = .ok (.ifCond .eq 11, 3) := by decide +kernel
theorem dX1_cueAt_8 : decode cX1_cueAt 8 = .ok (.aload_n 0, 1) := by decide +kernel
theorem dX1_cueAt_9 : decode cX1_cueAt 9 = .ok (.iload_n 1, 1) := by decide +kernel
theorem dX1_cueAt_10 : decode cX1_cueAt 10 = .ok (.invokevirtual 72, 3) := by decide +kernel
theorem dX1_cueAt_13 : decode cX1_cueAt 13 = .ok (.ifCond .ne 6, 3) := by decide +kernel
theorem dX1_cueAt_16 : decode cX1_cueAt 16 = .ok (.ldc 65, 2) := by decide +kernel
theorem dX1_cueAt_18 : decode cX1_cueAt 18 = .ok (.ireturn, 1) := by decide +kernel
theorem dX1_cueAt_19 : decode cX1_cueAt 19 = .ok (.ldc 65, 2) := by decide +kernel
theorem dX1_cueAt_21 : decode cX1_cueAt 21 = .ok (.istore_n 2, 1) := by decide +kernel
theorem dX1_cueAt_22 : decode cX1_cueAt 22 = .ok (.iconst 0, 1) := by decide +kernel
theorem dX1_cueAt_23 : decode cX1_cueAt 23 = .ok (.istore_n 3, 1) := by decide +kernel
theorem dX1_cueAt_24 : decode cX1_cueAt 24 = .ok (.iconst 0, 1) := by decide +kernel
theorem dX1_cueAt_25 : decode cX1_cueAt 25 = .ok (.istore 4, 2) := by decide +kernel
theorem dX1_cueAt_27 : decode cX1_cueAt 27 = .ok (.iload 4, 2) := by decide +kernel
theorem dX1_cueAt_29 : decode cX1_cueAt 29 = .ok (.aload_n 0, 1) := by decide +kernel
theorem dX1_cueAt_30 : decode cX1_cueAt 30 = .ok (.getfield 9, 3) := by decide +kernel
theorem dX1_cueAt_33 : decode cX1_cueAt 33 = .ok (.getfield 75, 3) := by decide +kernel
theorem dX1_cueAt_36 : decode cX1_cueAt 36 = .ok (.if_icmp .ge 43, 3) := by decide +kernel
theorem dX1_cueAt_39 : decode cX1_cueAt 39 = .ok (.iload 4, 2) := by decide +kernel
theorem dX1_cueAt_41 : decode cX1_cueAt 41 = .ok (.aload_n 0, 1) := by decide +kernel
theorem dX1_cueAt_42 : decode cX1_cueAt 42 = .ok (.getfield 26, 3) := by decide +kernel
theorem dX1_cueAt_45 : decode cX1_cueAt 45 = .ok (.if_icmp .ne 7, 3) := by decide +kernel
theorem dX1_cueAt_48 : decode cX1_cueAt 48 = .ok (.iconst 0, 1) := by decide +kernel
theorem dX1_cueAt_49 : decode cX1_cueAt 49 = .ok (.goto 10, 3) := by decide +kernel
theorem dX1_cueAt_52 : decode cX1_cueAt 52 = .ok (.aload_n 0, 1) := by decide +kernel
theorem dX1_cueAt_53 : decode cX1_cueAt 53 = .ok (.iload 4, 2) := by decide +kernel
theorem dX1_cueAt_55 : decode cX1_cueAt 55 = .ok (.iload_n 1, 1) := by decide +kernel
theorem dX1_cueAt_56 : decode cX1_cueAt 56 = .ok (.invokevirtual 78, 3) := by decide +kernel
theorem dX1_cueAt_59 : decode cX1_cueAt 59 = .ok (.istore 5, 2) := by decide +kernel
theorem dX1_cueAt_61 : decode cX1_cueAt 61 = .ok (.iload 5, 2) := by decide +kernel
theorem dX1_cueAt_63 : decode cX1_cueAt 63 = .ok (.iload_n 3, 1) := by decide +kernel
theorem dX1_cueAt_64 : decode cX1_cueAt 64 = .ok (.if_icmp .le 9, 3) := by decide +kernel
theorem dX1_cueAt_67 : decode cX1_cueAt 67 = .ok (.iload 5, 2) := by decide +kernel
theorem dX1_cueAt_69 : decode cX1_cueAt 69 = .ok (.istore_n 3, 1) := by decide +kernel
theorem dX1_cueAt_70 : decode cX1_cueAt 70 = .ok (.iload 4, 2) := by decide +kernel
theorem dX1_cueAt_72 : decode cX1_cueAt 72 = .ok (.istore_n 2, 1) := by decide +kernel
theorem dX1_cueAt_73 : decode cX1_cueAt 73 = .ok (.iinc 4 1, 3) := by decide +kernel
theorem dX1_cueAt_76 : decode cX1_cueAt 76 = .ok (.goto (-49), 3) := by decide +kernel
theorem dX1_cueAt_79 : decode cX1_cueAt 79 = .ok (.iload_n 2, 1) := by decide +kernel
theorem dX1_cueAt_80 : decode cX1_cueAt 80 = .ok (.ireturn, 1) := by decide +kernel
theorem dX1_restsAhead_0 : decode cX1_restsAhead 0 = .ok (.iload_n 1, 1) := by decide +kernel
theorem dX1_restsAhead_1 : decode cX1_restsAhead 1 = .ok (.aload_n 0, 1) := by decide +kernel
theorem dX1_restsAhead_2 : decode cX1_restsAhead 2 = .ok (.getfield 29, 3) := by decide +kernel
theorem dX1_restsAhead_5 : decode cX1_restsAhead 5 = .ok (.isub, 1) := by decide +kernel
theorem dX1_restsAhead_6 : decode cX1_restsAhead 6 = .ok (.istore_n 2, 1) := by decide +kernel
theorem dX1_restsAhead_7 : decode cX1_restsAhead 7 = .ok (.iload_n 2, 1) := by decide +kernel
theorem dX1_restsAhead_8 : decode cX1_restsAhead 8 = .ok (.iload_n 1, 1) := by decide +kernel
theorem dX1_restsAhead_9 : decode cX1_restsAhead 9 = .ok (.if_icmp .ge 19, 3) := by decide +kernel
theorem dX1_restsAhead_12 : decode cX1_restsAhead 12 = .ok (.aload_n 0, 1) := by decide +kernel
theorem dX1_restsAhead_13 : decode cX1_restsAhead 13 = .ok (.iload_n 2, 1) := by decide +kernel
theorem dX1_restsAhead_14 : decode cX1_restsAhead 14 = .ok (.invokevirtual 51, 3) := by decide +kernel
theorem dX1_restsAhead_17 : decode cX1_restsAhead 17 = .ok (.ifCond .ne 5, 3) := by decide +kernel
theorem dX1_restsAhead_20 : decode cX1_restsAhead 20 = .ok (.iconst 0, 1) := by decide +kernel
theorem dX1_restsAhead_21 : decode cX1_restsAhead 21 = .ok (.ireturn, 1) := by decide +kernel
theorem dX1_restsAhead_22 : decode cX1_restsAhead 22 = .ok (.iinc 2 1, 3) := by decide +kernel
theorem dX1_restsAhead_25 : decode cX1_restsAhead 25 = .ok (.goto (-18), 3) := by decide +kernel
theorem dX1_restsAhead_28 : decode cX1_restsAhead 28 = .ok (.iconst 1, 1) := by decide +kernel
theorem dX1_restsAhead_29 : decode cX1_restsAhead 29 = .ok (.ireturn, 1) := by decide +kernel
theorem dX1_heardAhead_0 : decode cX1_heardAhead 0 = .ok (.aload_n 0, 1) := by decide +kernel
theorem dX1_heardAhead_1 : decode cX1_heardAhead 1 = .ok (.getfield 9, 3) := by decide +kernel
theorem dX1_heardAhead_4 : decode cX1_heardAhead 4 = .ok (.iload_n 1, 1) := by decide +kernel
theorem dX1_heardAhead_5 : decode cX1_heardAhead 5 = .ok (.invokevirtual 32, 3) := by decide +kernel
theorem dX1_heardAhead_8 : decode cX1_heardAhead 8 = .ok (.astore_n 3, 1) := by decide +kernel
theorem dX1_heardAhead_9 : decode cX1_heardAhead 9 = .ok (.aload_n 3, 1) := by decide +kernel
theorem dX1_heardAhead_10 : decode cX1_heardAhead 10 = .ok (.ifnull 10, 3) := by decide +kernel
theorem dX1_heardAhead_13 : decode cX1_heardAhead 13 = .ok (.aload_n 3, 1) := by decide +kernel
theorem dX1_heardAhead_14 : decode cX1_heardAhead 14 = .ok (.getfield 82, 3) := by decide +kernel
theorem dX1_heardAhead_17 : decode cX1_heardAhead 17 = .ok (.ifCond .ne 5, 3) := by decide +kernel
theorem dX1_heardAhead_20 : decode cX1_heardAhead 20 = .ok (.iconst 0, 1) := by decide +kernel
theorem dX1_heardAhead_21 : decode cX1_heardAhead 21 = .ok (.ireturn, 1) := by decide +kernel
theorem dX1_heardAhead_22 : decode cX1_heardAhead 22 = .ok (.iconst 0, 1) := by decide +kernel
theorem dX1_heardAhead_23 : decode cX1_heardAhead 23 = .ok (.istore 4, 2) := by decide +kernel
theorem dX1_heardAhead_25 : decode cX1_heardAhead 25 = .ok (.iload_n 2, 1) := by decide +kernel
theorem dX1_heardAhead_26 : decode cX1_heardAhead 26 = .ok (.aload_n 0, 1) := by decide +kernel
theorem dX1_heardAhead_27 : decode cX1_heardAhead 27 = .ok (.getfield 29, 3) := by decide +kernel
theorem dX1_heardAhead_30 : decode cX1_heardAhead 30 = .ok (.iconst 2, 1) := by decide +kernel
theorem dX1_heardAhead_31 : decode cX1_heardAhead 31 = .ok (.invokestatic 86, 3) := by decide +kernel
theorem dX1_heardAhead_34 : decode cX1_heardAhead 34 = .ok (.isub, 1) := by decide +kernel
theorem dX1_heardAhead_35 : decode cX1_heardAhead 35 = .ok (.istore 5, 2) := by decide +kernel
theorem dX1_heardAhead_37 : decode cX1_heardAhead 37 = .ok (.iload 5, 2) := by decide +kernel
theorem dX1_heardAhead_39 : decode cX1_heardAhead 39 = .ok (.iload_n 2, 1) := by decide +kernel
theorem dX1_heardAhead_40 : decode cX1_heardAhead 40 = .ok (.if_icmp .ge 35, 3) := by decide +kernel
theorem dX1_heardAhead_43 : decode cX1_heardAhead 43 = .ok (.aload_n 0, 1) := by decide +kernel
theorem dX1_heardAhead_44 : decode cX1_heardAhead 44 = .ok (.iload 5, 2) := by decide +kernel
theorem dX1_heardAhead_46 : decode cX1_heardAhead 46 = .ok (.invokevirtual 45, 3) := by decide +kernel
theorem dX1_heardAhead_49 : decode cX1_heardAhead 49 = .ok (.ifCond .eq 20, 3) := by decide +kernel
theorem dX1_heardAhead_52 : decode cX1_heardAhead 52 = .ok (.iload 4, 2) := by decide +kernel
theorem dX1_heardAhead_54 : decode cX1_heardAhead 54 = .ok (.aload_n 3, 1) := by decide +kernel
theorem dX1_heardAhead_55 : decode cX1_heardAhead 55 = .ok (.getfield 91, 3) := by decide +kernel
theorem dX1_heardAhead_58 : decode cX1_heardAhead 58 = .ok (.aload_n 0, 1) := by decide +kernel
theorem dX1_heardAhead_59 : decode cX1_heardAhead 59 = .ok (.getfield 15, 3) := by decide +kernel
theorem dX1_heardAhead_62 : decode cX1_heardAhead 62 = .ok (.iload 5, 2) := by decide +kernel
theorem dX1_heardAhead_64 : decode cX1_heardAhead 64 = .ok (.iaload, 1) := by decide +kernel
theorem dX1_heardAhead_65 : decode cX1_heardAhead 65 = .ok (.iaload, 1) := by decide +kernel
theorem dX1_heardAhead_66 : decode cX1_heardAhead 66 = .ok (.iadd, 1) := by decide +kernel
theorem dX1_heardAhead_67 : decode cX1_heardAhead 67 = .ok (.istore 4, 2) := by decide +kernel
theorem dX1_heardAhead_69 : decode cX1_heardAhead 69 = .ok (.iinc 5 1, 3) := by decide +kernel
theorem dX1_heardAhead_72 : decode cX1_heardAhead 72 = .ok (.goto (-35), 3) := by decide +kernel
theorem dX1_heardAhead_75 : decode cX1_heardAhead 75 = .ok (.iload 4, 2) := by decide +kernel
theorem dX1_heardAhead_77 : decode cX1_heardAhead 77 = .ok (.ireturn, 1) := by decide +kernel
theorem dX2_init_0 : decode cX2_init 0 = .ok (.aload_n 0, 1) := by decide +kernel
theorem dX2_init_1 : decode cX2_init 1 = .ok (.invokespecial 3, 3) := by decide +kernel
theorem dX2_init_4 : decode cX2_init 4 = .ok (.aload_n 0, 1) := by decide +kernel
theorem dX2_init_5 : decode cX2_init 5 = .ok (.bipush 40, 2) := by decide +kernel
theorem dX2_init_7 : decode cX2_init 7 = .ok (.newarray .int, 2) := by decide +kernel
theorem dX2_init_9 : decode cX2_init 9 = .ok (.putfield 9, 3) := by decide +kernel
theorem dX2_init_12 : decode cX2_init 12 = .ok (.aload_n 0, 1) := by decide +kernel
theorem dX2_init_13 : decode cX2_init 13 = .ok (.bipush 40, 2) := by decide +kernel
theorem dX2_init_15 : decode cX2_init 15 = .ok (.newarray .int, 2) := by decide +kernel
theorem dX2_init_17 : decode cX2_init 17 = .ok (.putfield 15, 3) := by decide +kernel
theorem dX2_init_20 : decode cX2_init 20 = .ok (.aload_n 0, 1) := by decide +kernel
theorem dX2_init_21 : decode cX2_init 21 = .ok (.bipush 6, 2) := by decide +kernel
theorem dX2_init_23 : decode cX2_init 23 = .ok (.anewarray 18, 3) := by decide +kernel
theorem dX2_init_26 : decode cX2_init 26 = .ok (.putfield 20, 3) := by decide +kernel
theorem dX2_init_29 : decode cX2_init 29 = .ok (.aload_n 0, 1) := by decide +kernel
theorem dX2_init_30 : decode cX2_init 30 = .ok (.iconst 0, 1) := by decide +kernel
theorem dX2_init_31 : decode cX2_init 31 = .ok (.putfield 24, 3) := by decide +kernel
theorem dX2_init_34 : decode cX2_init 34 = .ok (.aload_n 0, 1) := by decide +kernel
theorem dX2_init_35 : decode cX2_init 35 = .ok (.iconst 0, 1) := by decide +kernel
theorem dX2_init_36 : decode cX2_init 36 = .ok (.putfield 28, 3) := by decide +kernel
theorem dX2_init_39 : decode cX2_init 39 = .ok (.return_, 1) := by decide +kernel
theorem dX2_addBar_0 : decode cX2_addBar 0 = .ok (.aload_n 0, 1) := by decide +kernel
theorem dX2_addBar_1 : decode cX2_addBar 1 = .ok (.getfield 24, 3) := by decide +kernel
theorem dX2_addBar_4 : decode cX2_addBar 4 = .ok (.bipush 40, 2) := by decide +kernel
theorem dX2_addBar_6 : decode cX2_addBar 6 = .ok (.if_icmp .lt 6, 3) := by decide +kernel
theorem dX2_addBar_9 : decode cX2_addBar 9 = .ok (.ldc 31, 2) := by decide +kernel
theorem dX2_addBar_11 : decode cX2_addBar 11 = .ok (.ireturn, 1) := by decide +kernel
theorem dX2_addBar_12 : decode cX2_addBar 12 = .ok (.aload_n 0, 1) := by decide +kernel
theorem dX2_addBar_13 : decode cX2_addBar 13 = .ok (.getfield 9, 3) := by decide +kernel
theorem dX2_addBar_16 : decode cX2_addBar 16 = .ok (.aload_n 0, 1) := by decide +kernel
theorem dX2_addBar_17 : decode cX2_addBar 17 = .ok (.getfield 24, 3) := by decide +kernel
theorem dX2_addBar_20 : decode cX2_addBar 20 = .ok (.iload_n 1, 1) := by decide +kernel
theorem dX2_addBar_21 : decode cX2_addBar 21 = .ok (.iastore, 1) := by decide +kernel
theorem dX2_addBar_22 : decode cX2_addBar 22 = .ok (.aload_n 0, 1) := by decide +kernel
theorem dX2_addBar_23 : decode cX2_addBar 23 = .ok (.dup, 1) := by decide +kernel
theorem dX2_addBar_24 : decode cX2_addBar 24 = .ok (.getfield 24, 3) := by decide +kernel
theorem dX2_addBar_27 : decode cX2_addBar 27 = .ok (.iconst 1, 1) := by decide +kernel
theorem dX2_addBar_28 : decode cX2_addBar 28 = .ok (.iadd, 1) := by decide +kernel
theorem dX2_addBar_29 : decode cX2_addBar 29 = .ok (.putfield 24, 3) := by decide +kernel
theorem dX2_addBar_32 : decode cX2_addBar 32 = .ok (.aload_n 0, 1) := by decide +kernel
theorem dX2_addBar_33 : decode cX2_addBar 33 = .ok (.getfield 24, 3) := by decide +kernel
theorem dX2_addBar_36 : decode cX2_addBar 36 = .ok (.iconst 1, 1) := by decide +kernel
theorem dX2_addBar_37 : decode cX2_addBar 37 = .ok (.isub, 1) := by decide +kernel
theorem dX2_addBar_38 : decode cX2_addBar 38 = .ok (.ireturn, 1) := by decide +kernel
theorem dX2_addVoice_0 : decode cX2_addVoice 0 = .ok (.aload_n 0, 1) := by decide +kernel
theorem dX2_addVoice_1 : decode cX2_addVoice 1 = .ok (.getfield 28, 3) := by decide +kernel
theorem dX2_addVoice_4 : decode cX2_addVoice 4 = .ok (.bipush 6, 2) := by decide +kernel
theorem dX2_addVoice_6 : decode cX2_addVoice 6 = .ok (.if_icmp .lt 6, 3) := by decide +kernel
theorem dX2_addVoice_9 : decode cX2_addVoice 9 = .ok (.ldc 31, 2) := by decide +kernel
theorem dX2_addVoice_11 : decode cX2_addVoice 11 = .ok (.ireturn, 1) := by decide +kernel
theorem dX2_addVoice_12 : decode cX2_addVoice 12 = .ok (.aload_n 0, 1) := by decide +kernel
theorem dX2_addVoice_13 : decode cX2_addVoice 13 = .ok (.getfield 20, 3) := by decide +kernel
theorem dX2_addVoice_16 : decode cX2_addVoice 16 = .ok (.aload_n 0, 1) := by decide +kernel
theorem dX2_addVoice_17 : decode cX2_addVoice 17 = .ok (.getfield 28, 3) := by decide +kernel
theorem dX2_addVoice_20 : decode cX2_addVoice 20 = .ok (.new 18, 3) := by decide +kernel
theorem dX2_addVoice_23 : decode cX2_addVoice 23 = .ok (.dup, 1) := by decide +kernel
theorem dX2_addVoice_24 : decode cX2_addVoice 24 = .ok (.iload_n 1, 1) := by decide +kernel
theorem dX2_addVoice_25 : decode cX2_addVoice 25 = .ok (.iload_n 2, 1) := by decide +kernel
theorem dX2_addVoice_26 : decode cX2_addVoice 26 = .ok (.invokespecial 32, 3) := by decide +kernel
theorem dX2_addVoice_29 : decode cX2_addVoice 29 = .ok (.aastore, 1) := by decide +kernel
theorem dX2_addVoice_30 : decode cX2_addVoice 30 = .ok (.aload_n 0, 1) := by decide +kernel
theorem dX2_addVoice_31 : decode cX2_addVoice 31 = .ok (.dup, 1) := by decide +kernel
theorem dX2_addVoice_32 : decode cX2_addVoice 32 = .ok (.getfield 28, 3) := by decide +kernel
theorem dX2_addVoice_35 : decode cX2_addVoice 35 = .ok (.iconst 1, 1) := by decide +kernel
theorem dX2_addVoice_36 : decode cX2_addVoice 36 = .ok (.iadd, 1) := by decide +kernel
theorem dX2_addVoice_37 : decode cX2_addVoice 37 = .ok (.putfield 28, 3) := by decide +kernel
theorem dX2_addVoice_40 : decode cX2_addVoice 40 = .ok (.aload_n 0, 1) := by decide +kernel
theorem dX2_addVoice_41 : decode cX2_addVoice 41 = .ok (.getfield 28, 3) := by decide +kernel
theorem dX2_addVoice_44 : decode cX2_addVoice 44 = .ok (.iconst 1, 1) := by decide +kernel
theorem dX2_addVoice_45 : decode cX2_addVoice 45 = .ok (.isub, 1) := by decide +kernel
theorem dX2_addVoice_46 : decode cX2_addVoice 46 = .ok (.ireturn, 1) := by decide +kernel
theorem dX2_hasBar_0 : decode cX2_hasBar 0 = .ok (.iload_n 1, 1) := by decide +kernel
theorem dX2_hasBar_1 : decode cX2_hasBar 1 = .ok (.ifCond .lt 15, 3) := by decide +kernel
theorem dX2_hasBar_4 : decode cX2_hasBar 4 = .ok (.iload_n 1, 1) := by decide +kernel
theorem dX2_hasBar_5 : decode cX2_hasBar 5 = .ok (.aload_n 0, 1) := by decide +kernel
theorem dX2_hasBar_6 : decode cX2_hasBar 6 = .ok (.getfield 24, 3) := by decide +kernel
theorem dX2_hasBar_9 : decode cX2_hasBar 9 = .ok (.if_icmp .ge 7, 3) := by decide +kernel
theorem dX2_hasBar_12 : decode cX2_hasBar 12 = .ok (.iconst 1, 1) := by decide +kernel
theorem dX2_hasBar_13 : decode cX2_hasBar 13 = .ok (.goto 4, 3) := by decide +kernel
theorem dX2_hasBar_16 : decode cX2_hasBar 16 = .ok (.iconst 0, 1) := by decide +kernel
theorem dX2_hasBar_17 : decode cX2_hasBar 17 = .ok (.ireturn, 1) := by decide +kernel
theorem dX2_isThere_0 : decode cX2_isThere 0 = .ok (.aload_n 0, 1) := by decide +kernel
theorem dX2_isThere_1 : decode cX2_isThere 1 = .ok (.iload_n 1, 1) := by decide +kernel
theorem dX2_isThere_2 : decode cX2_isThere 2 = .ok (.invokevirtual 35, 3) := by decide +kernel
theorem dX2_isThere_5 : decode cX2_isThere 5 = .ok (.ifCond .eq 18, 3) := by decide +kernel
theorem dX2_isThere_8 : decode cX2_isThere 8 = .ok (.aload_n 0, 1) := by decide +kernel
theorem dX2_isThere_9 : decode cX2_isThere 9 = .ok (.getfield 15, 3) := by decide +kernel
theorem dX2_isThere_12 : decode cX2_isThere 12 = .ok (.iload_n 1, 1) := by decide +kernel
theorem dX2_isThere_13 : decode cX2_isThere 13 = .ok (.iaload, 1) := by decide +kernel
theorem dX2_isThere_14 : decode cX2_isThere 14 = .ok (.iconst 4, 1) := by decide +kernel
theorem dX2_isThere_15 : decode cX2_isThere 15 = .ok (.iand, 1) := by decide +kernel
theorem dX2_isThere_16 : decode cX2_isThere 16 = .ok (.ifCond .ne 7, 3) := by decide +kernel
theorem dX2_isThere_19 : decode cX2_isThere 19 = .ok (.iconst 1, 1) := by decide +kernel
theorem dX2_isThere_20 : decode cX2_isThere 20 = .ok (.goto 4, 3) := by decide +kernel
theorem dX2_isThere_23 : decode cX2_isThere 23 = .ok (.iconst 0, 1) := by decide +kernel
theorem dX2_isThere_24 : decode cX2_isThere 24 = .ok (.ireturn, 1) := by decide +kernel
theorem dX2_voiceAt_0 : decode cX2_voiceAt 0 = .ok (.iload_n 1, 1) := by decide +kernel
theorem dX2_voiceAt_1 : decode cX2_voiceAt 1 = .ok (.ifCond .lt 20, 3) := by decide +kernel
theorem dX2_voiceAt_4 : decode cX2_voiceAt 4 = .ok (.iload_n 1, 1) := by decide +kernel
theorem dX2_voiceAt_5 : decode cX2_voiceAt 5 = .ok (.aload_n 0, 1) := by decide +kernel
theorem dX2_voiceAt_6 : decode cX2_voiceAt 6 = .ok (.getfield 28, 3) := by decide +kernel
theorem dX2_voiceAt_9 : decode cX2_voiceAt 9 = .ok (.if_icmp .ge 12, 3) := by decide +kernel
theorem dX2_voiceAt_12 : decode cX2_voiceAt 12 = .ok (.aload_n 0, 1) := by decide +kernel
theorem dX2_voiceAt_13 : decode cX2_voiceAt 13 = .ok (.getfield 20, 3) := by decide +kernel
theorem dX2_voiceAt_16 : decode cX2_voiceAt 16 = .ok (.iload_n 1, 1) := by decide +kernel
theorem dX2_voiceAt_17 : decode cX2_voiceAt 17 = .ok (.aaload, 1) := by decide +kernel
theorem dX2_voiceAt_18 : decode cX2_voiceAt 18 = .ok (.goto 4, 3) := by decide +kernel
theorem dX2_voiceAt_21 : decode cX2_voiceAt 21 = .ok (.aconst_null, 1) := by decide +kernel
theorem dX2_voiceAt_22 : decode cX2_voiceAt 22 = .ok (.areturn, 1) := by decide +kernel
theorem dX2_setCut_0 : decode cX2_setCut 0 = .ok (.iconst 0, 1) := by decide +kernel
theorem dX2_setCut_1 : decode cX2_setCut 1 = .ok (.istore 4, 2) := by decide +kernel
theorem dX2_setCut_3 : decode cX2_setCut 3 = .ok (.iload_n 1, 1) := by decide +kernel
theorem dX2_setCut_4 : decode cX2_setCut 4 = .ok (.istore 5, 2) := by decide +kernel
theorem dX2_setCut_6 : decode cX2_setCut 6 = .ok (.iload 5, 2) := by decide +kernel
theorem dX2_setCut_8 : decode cX2_setCut 8 = .ok (.iload_n 2, 1) := by decide +kernel
theorem dX2_setCut_9 : decode cX2_setCut 9 = .ok (.if_icmp .gt 42, 3) := by decide +kernel
theorem dX2_setCut_12 : decode cX2_setCut 12 = .ok (.iload 5, 2) := by decide +kernel
theorem dX2_setCut_14 : decode cX2_setCut 14 = .ok (.aload_n 0, 1) := by decide +kernel
theorem dX2_setCut_15 : decode cX2_setCut 15 = .ok (.getfield 24, 3) := by decide +kernel
theorem dX2_setCut_18 : decode cX2_setCut 18 = .ok (.if_icmp .ge 33, 3) := by decide +kernel
theorem dX2_setCut_21 : decode cX2_setCut 21 = .ok (.aload_n 0, 1) := by decide +kernel
theorem dX2_setCut_22 : decode cX2_setCut 22 = .ok (.iload 5, 2) := by decide +kernel
theorem dX2_setCut_24 : decode cX2_setCut 24 = .ok (.invokevirtual 39, 3) := by decide +kernel
theorem dX2_setCut_27 : decode cX2_setCut 27 = .ok (.iload_n 3, 1) := by decide +kernel
theorem dX2_setCut_28 : decode cX2_setCut 28 = .ok (.if_icmp .ne 17, 3) := by decide +kernel
theorem dX2_setCut_31 : decode cX2_setCut 31 = .ok (.aload_n 0, 1) := by decide +kernel
theorem dX2_setCut_32 : decode cX2_setCut 32 = .ok (.getfield 15, 3) := by decide +kernel
theorem dX2_setCut_35 : decode cX2_setCut 35 = .ok (.iload 5, 2) := by decide +kernel
theorem dX2_setCut_37 : decode cX2_setCut 37 = .ok (.dup2, 1) := by decide +kernel
theorem dX2_setCut_38 : decode cX2_setCut 38 = .ok (.iaload, 1) := by decide +kernel
theorem dX2_setCut_39 : decode cX2_setCut 39 = .ok (.iconst 4, 1) := by decide +kernel
theorem dX2_setCut_40 : decode cX2_setCut 40 = .ok (.ixor, 1) := by decide +kernel
theorem dX2_setCut_41 : decode cX2_setCut 41 = .ok (.iastore, 1) := by decide +kernel
theorem dX2_setCut_42 : decode cX2_setCut 42 = .ok (.iinc 4 1, 3) := by decide +kernel
theorem dX2_setCut_45 : decode cX2_setCut 45 = .ok (.iinc 5 1, 3) := by decide +kernel
theorem dX2_setCut_48 : decode cX2_setCut 48 = .ok (.goto (-42), 3) := by decide +kernel
theorem dX2_setCut_51 : decode cX2_setCut 51 = .ok (.iload 4, 2) := by decide +kernel
theorem dX2_setCut_53 : decode cX2_setCut 53 = .ok (.ireturn, 1) := by decide +kernel
theorem dX2_cutBars_0 : decode cX2_cutBars 0 = .ok (.iconst 0, 1) := by decide +kernel
theorem dX2_cutBars_1 : decode cX2_cutBars 1 = .ok (.istore_n 1, 1) := by decide +kernel
theorem dX2_cutBars_2 : decode cX2_cutBars 2 = .ok (.iconst 0, 1) := by decide +kernel
theorem dX2_cutBars_3 : decode cX2_cutBars 3 = .ok (.istore_n 2, 1) := by decide +kernel
theorem dX2_cutBars_4 : decode cX2_cutBars 4 = .ok (.iload_n 2, 1) := by decide +kernel
theorem dX2_cutBars_5 : decode cX2_cutBars 5 = .ok (.aload_n 0, 1) := by decide +kernel
theorem dX2_cutBars_6 : decode cX2_cutBars 6 = .ok (.getfield 24, 3) := by decide +kernel
theorem dX2_cutBars_9 : decode cX2_cutBars 9 = .ok (.if_icmp .ge 20, 3) := by decide +kernel
theorem dX2_cutBars_12 : decode cX2_cutBars 12 = .ok (.aload_n 0, 1) := by decide +kernel
theorem dX2_cutBars_13 : decode cX2_cutBars 13 = .ok (.iload_n 2, 1) := by decide +kernel
theorem dX2_cutBars_14 : decode cX2_cutBars 14 = .ok (.invokevirtual 39, 3) := by decide +kernel
theorem dX2_cutBars_17 : decode cX2_cutBars 17 = .ok (.ifCond .ne 6, 3) := by decide +kernel
theorem dX2_cutBars_20 : decode cX2_cutBars 20 = .ok (.iinc 1 1, 3) := by decide +kernel
theorem dX2_cutBars_23 : decode cX2_cutBars 23 = .ok (.iinc 2 1, 3) := by decide +kernel
theorem dX2_cutBars_26 : decode cX2_cutBars 26 = .ok (.goto (-22), 3) := by decide +kernel
theorem dX2_cutBars_29 : decode cX2_cutBars 29 = .ok (.iload_n 1, 1) := by decide +kernel
theorem dX2_cutBars_30 : decode cX2_cutBars 30 = .ok (.ireturn, 1) := by decide +kernel
theorem dX2_secondsLeft_0 : decode cX2_secondsLeft 0 = .ok (.iconst 0, 1) := by decide +kernel
theorem dX2_secondsLeft_1 : decode cX2_secondsLeft 1 = .ok (.istore_n 1, 1) := by decide +kernel
theorem dX2_secondsLeft_2 : decode cX2_secondsLeft 2 = .ok (.iconst 0, 1) := by decide +kernel
theorem dX2_secondsLeft_3 : decode cX2_secondsLeft 3 = .ok (.istore_n 2, 1) := by decide +kernel
theorem dX2_secondsLeft_4 : decode cX2_secondsLeft 4 = .ok (.iload_n 2, 1) := by decide +kernel
theorem dX2_secondsLeft_5 : decode cX2_secondsLeft 5 = .ok (.aload_n 0, 1) := by decide +kernel
theorem dX2_secondsLeft_6 : decode cX2_secondsLeft 6 = .ok (.getfield 24, 3) := by decide +kernel
theorem dX2_secondsLeft_9 : decode cX2_secondsLeft 9 = .ok (.if_icmp .ge 26, 3) := by decide +kernel
theorem dX2_secondsLeft_12 : decode cX2_secondsLeft 12 = .ok (.aload_n 0, 1) := by decide +kernel
theorem dX2_secondsLeft_13 : decode cX2_secondsLeft 13 = .ok (.iload_n 2, 1) := by decide +kernel
theorem dX2_secondsLeft_14 : decode cX2_secondsLeft 14 = .ok (.invokevirtual 39, 3) := by decide +kernel
theorem dX2_secondsLeft_17 : decode cX2_secondsLeft 17 = .ok (.ifCond .eq 12, 3) := by decide +kernel
theorem dX2_secondsLeft_20 : decode cX2_secondsLeft 20 = .ok (.iload_n 1, 1) := by decide +kernel
theorem dX2_secondsLeft_21 : decode cX2_secondsLeft 21 = .ok (.aload_n 0, 1) := by decide +kernel
theorem dX2_secondsLeft_22 : decode cX2_secondsLeft 22 = .ok (.getfield 9, 3) := by decide +kernel
theorem dX2_secondsLeft_25 : decode cX2_secondsLeft 25 = .ok (.iload_n 2, 1) := by decide +kernel
theorem dX2_secondsLeft_26 : decode cX2_secondsLeft 26 = .ok (.iaload, 1) := by decide +kernel
theorem dX2_secondsLeft_27 : decode cX2_secondsLeft 27 = .ok (.iadd, 1) := by decide +kernel
theorem dX2_secondsLeft_28 : decode cX2_secondsLeft 28 = .ok (.istore_n 1, 1) := by decide +kernel
theorem dX2_secondsLeft_29 : decode cX2_secondsLeft 29 = .ok (.iinc 2 1, 3) := by decide +kernel
theorem dX2_secondsLeft_32 : decode cX2_secondsLeft 32 = .ok (.goto (-28), 3) := by decide +kernel
theorem dX2_secondsLeft_35 : decode cX2_secondsLeft 35 = .ok (.iload_n 1, 1) := by decide +kernel
theorem dX2_secondsLeft_36 : decode cX2_secondsLeft 36 = .ok (.ireturn, 1) := by decide +kernel
theorem dX2_laidVoices_0 : decode cX2_laidVoices 0 = .ok (.iconst 0, 1) := by decide +kernel
theorem dX2_laidVoices_1 : decode cX2_laidVoices 1 = .ok (.istore_n 1, 1) := by decide +kernel
theorem dX2_laidVoices_2 : decode cX2_laidVoices 2 = .ok (.iconst 0, 1) := by decide +kernel
theorem dX2_laidVoices_3 : decode cX2_laidVoices 3 = .ok (.istore_n 2, 1) := by decide +kernel
theorem dX2_laidVoices_4 : decode cX2_laidVoices 4 = .ok (.iload_n 2, 1) := by decide +kernel
theorem dX2_laidVoices_5 : decode cX2_laidVoices 5 = .ok (.aload_n 0, 1) := by decide +kernel
theorem dX2_laidVoices_6 : decode cX2_laidVoices 6 = .ok (.getfield 28, 3) := by decide +kernel
theorem dX2_laidVoices_9 : decode cX2_laidVoices 9 = .ok (.if_icmp .ge 30, 3) := by decide +kernel
theorem dX2_laidVoices_12 : decode cX2_laidVoices 12 = .ok (.aload_n 0, 1) := by decide +kernel
theorem dX2_laidVoices_13 : decode cX2_laidVoices 13 = .ok (.getfield 20, 3) := by decide +kernel
theorem dX2_laidVoices_16 : decode cX2_laidVoices 16 = .ok (.iload_n 2, 1) := by decide +kernel
theorem dX2_laidVoices_17 : decode cX2_laidVoices 17 = .ok (.aaload, 1) := by decide +kernel
theorem dX2_laidVoices_18 : decode cX2_laidVoices 18 = .ok (.astore_n 3, 1) := by decide +kernel
theorem dX2_laidVoices_19 : decode cX2_laidVoices 19 = .ok (.aload_n 3, 1) := by decide +kernel
theorem dX2_laidVoices_20 : decode cX2_laidVoices 20 = .ok (.ifnull 13, 3) := by decide +kernel
theorem dX2_laidVoices_23 : decode cX2_laidVoices 23 = .ok (.aload_n 3, 1) := by decide +kernel
theorem dX2_laidVoices_24 : decode cX2_laidVoices 24 = .ok (.getfield 42, 3) := by decide +kernel
theorem dX2_laidVoices_27 : decode cX2_laidVoices 27 = .ok (.ifCond .le 6, 3) := by decide +kernel
theorem dX2_laidVoices_30 : decode cX2_laidVoices 30 = .ok (.iinc 1 1, 3) := by decide +kernel
theorem dX2_laidVoices_33 : decode cX2_laidVoices 33 = .ok (.iinc 2 1, 3) := by decide +kernel
theorem dX2_laidVoices_36 : decode cX2_laidVoices 36 = .ok (.goto (-32), 3) := by decide +kernel
theorem dX2_laidVoices_39 : decode cX2_laidVoices 39 = .ok (.iload_n 1, 1) := by decide +kernel
theorem dX2_laidVoices_40 : decode cX2_laidVoices 40 = .ok (.ireturn, 1) := by decide +kernel
theorem dX3_init_0 : decode cX3_init 0 = .ok (.aload_n 0, 1) := by decide +kernel
theorem dX3_init_1 : decode cX3_init 1 = .ok (.invokespecial 3, 3) := by decide +kernel
theorem dX3_init_4 : decode cX3_init 4 = .ok (.aload_n 0, 1) := by decide +kernel
theorem dX3_init_5 : decode cX3_init 5 = .ok (.bipush 40, 2) := by decide +kernel
theorem dX3_init_7 : decode cX3_init 7 = .ok (.newarray .int, 2) := by decide +kernel
theorem dX3_init_9 : decode cX3_init 9 = .ok (.putfield 9, 3) := by decide +kernel
theorem dX3_init_12 : decode cX3_init 12 = .ok (.aload_n 0, 1) := by decide +kernel
theorem dX3_init_13 : decode cX3_init 13 = .ok (.iconst 0, 1) := by decide +kernel
theorem dX3_init_14 : decode cX3_init 14 = .ok (.putfield 15, 3) := by decide +kernel
theorem dX3_init_17 : decode cX3_init 17 = .ok (.return_, 1) := by decide +kernel
theorem dX3_add_0 : decode cX3_add 0 = .ok (.aload_n 0, 1) := by decide +kernel
theorem dX3_add_1 : decode cX3_add 1 = .ok (.getfield 15, 3) := by decide +kernel
theorem dX3_add_4 : decode cX3_add 4 = .ok (.bipush 40, 2) := by decide +kernel
theorem dX3_add_6 : decode cX3_add 6 = .ok (.if_icmp .lt 6, 3) := by decide +kernel
theorem dX3_add_9 : decode cX3_add 9 = .ok (.ldc 19, 2) := by decide +kernel
theorem dX3_add_11 : decode cX3_add 11 = .ok (.ireturn, 1) := by decide +kernel
theorem dX3_add_12 : decode cX3_add 12 = .ok (.aload_n 0, 1) := by decide +kernel
theorem dX3_add_13 : decode cX3_add 13 = .ok (.getfield 9, 3) := by decide +kernel
theorem dX3_add_16 : decode cX3_add 16 = .ok (.aload_n 0, 1) := by decide +kernel
theorem dX3_add_17 : decode cX3_add 17 = .ok (.getfield 15, 3) := by decide +kernel
theorem dX3_add_20 : decode cX3_add 20 = .ok (.iload_n 1, 1) := by decide +kernel
theorem dX3_add_21 : decode cX3_add 21 = .ok (.iastore, 1) := by decide +kernel
theorem dX3_add_22 : decode cX3_add 22 = .ok (.aload_n 0, 1) := by decide +kernel
theorem dX3_add_23 : decode cX3_add 23 = .ok (.dup, 1) := by decide +kernel
theorem dX3_add_24 : decode cX3_add 24 = .ok (.getfield 15, 3) := by decide +kernel
theorem dX3_add_27 : decode cX3_add 27 = .ok (.iconst 1, 1) := by decide +kernel
theorem dX3_add_28 : decode cX3_add 28 = .ok (.iadd, 1) := by decide +kernel
theorem dX3_add_29 : decode cX3_add 29 = .ok (.putfield 15, 3) := by decide +kernel
theorem dX3_add_32 : decode cX3_add 32 = .ok (.aload_n 0, 1) := by decide +kernel
theorem dX3_add_33 : decode cX3_add 33 = .ok (.getfield 15, 3) := by decide +kernel
theorem dX3_add_36 : decode cX3_add 36 = .ok (.ireturn, 1) := by decide +kernel
theorem dX3_takeAll_0 : decode cX3_takeAll 0 = .ok (.aload_n 0, 1) := by decide +kernel
theorem dX3_takeAll_1 : decode cX3_takeAll 1 = .ok (.getfield 15, 3) := by decide +kernel
theorem dX3_takeAll_4 : decode cX3_takeAll 4 = .ok (.istore_n 1, 1) := by decide +kernel
theorem dX3_takeAll_5 : decode cX3_takeAll 5 = .ok (.aload_n 0, 1) := by decide +kernel
theorem dX3_takeAll_6 : decode cX3_takeAll 6 = .ok (.iconst 0, 1) := by decide +kernel
theorem dX3_takeAll_7 : decode cX3_takeAll 7 = .ok (.putfield 15, 3) := by decide +kernel
theorem dX3_takeAll_10 : decode cX3_takeAll 10 = .ok (.iload_n 1, 1) := by decide +kernel
theorem dX3_takeAll_11 : decode cX3_takeAll 11 = .ok (.ireturn, 1) := by decide +kernel
theorem dX3_compare_0 : decode cX3_compare 0 = .ok (.iconst 0, 1) := by decide +kernel
theorem dX3_compare_1 : decode cX3_compare 1 = .ok (.istore_n 3, 1) := by decide +kernel
theorem dX3_compare_2 : decode cX3_compare 2 = .ok (.iconst 0, 1) := by decide +kernel
theorem dX3_compare_3 : decode cX3_compare 3 = .ok (.istore 4, 2) := by decide +kernel
theorem dX3_compare_5 : decode cX3_compare 5 = .ok (.iload 4, 2) := by decide +kernel
theorem dX3_compare_7 : decode cX3_compare 7 = .ok (.aload_n 2, 1) := by decide +kernel
theorem dX3_compare_8 : decode cX3_compare 8 = .ok (.getfield 20, 3) := by decide +kernel
theorem dX3_compare_11 : decode cX3_compare 11 = .ok (.if_icmp .ge 83, 3) := by decide +kernel
theorem dX3_compare_14 : decode cX3_compare 14 = .ok (.aload_n 2, 1) := by decide +kernel
theorem dX3_compare_15 : decode cX3_compare 15 = .ok (.iload 4, 2) := by decide +kernel
theorem dX3_compare_17 : decode cX3_compare 17 = .ok (.invokevirtual 25, 3) := by decide +kernel
theorem dX3_compare_20 : decode cX3_compare 20 = .ok (.ifCond .ne 12, 3) := by decide +kernel
theorem dX3_compare_23 : decode cX3_compare 23 = .ok (.aload_n 2, 1) := by decide +kernel
theorem dX3_compare_24 : decode cX3_compare 24 = .ok (.iload 4, 2) := by decide +kernel
theorem dX3_compare_26 : decode cX3_compare 26 = .ok (.invokevirtual 29, 3) := by decide +kernel
theorem dX3_compare_29 : decode cX3_compare 29 = .ok (.ifCond .eq 59, 3) := by decide +kernel
theorem dX3_compare_32 : decode cX3_compare 32 = .ok (.aload_n 2, 1) := by decide +kernel
theorem dX3_compare_33 : decode cX3_compare 33 = .ok (.iload 4, 2) := by decide +kernel
theorem dX3_compare_35 : decode cX3_compare 35 = .ok (.invokevirtual 25, 3) := by decide +kernel
theorem dX3_compare_38 : decode cX3_compare 38 = .ok (.ifCond .eq 12, 3) := by decide +kernel
theorem dX3_compare_41 : decode cX3_compare 41 = .ok (.aload_n 2, 1) := by decide +kernel
theorem dX3_compare_42 : decode cX3_compare 42 = .ok (.iload 4, 2) := by decide +kernel
theorem dX3_compare_44 : decode cX3_compare 44 = .ok (.invokevirtual 32, 3) := by decide +kernel
theorem dX3_compare_47 : decode cX3_compare 47 = .ok (.goto 10, 3) := by decide +kernel
theorem dX3_compare_50 : decode cX3_compare 50 = .ok (.aload_n 2, 1) := by decide +kernel
theorem dX3_compare_51 : decode cX3_compare 51 = .ok (.iload 4, 2) := by decide +kernel
theorem dX3_compare_53 : decode cX3_compare 53 = .ok (.invokevirtual 36, 3) := by decide +kernel
theorem dX3_compare_56 : decode cX3_compare 56 = .ok (.ineg, 1) := by decide +kernel
theorem dX3_compare_57 : decode cX3_compare 57 = .ok (.istore 5, 2) := by decide +kernel
theorem dX3_compare_59 : decode cX3_compare 59 = .ok (.iload_n 3, 1) := by decide +kernel
theorem dX3_compare_60 : decode cX3_compare 60 = .ok (.iload_n 1, 1) := by decide +kernel
theorem dX3_compare_61 : decode cX3_compare 61 = .ok (.if_icmp .ge 20, 3) := by decide +kernel
theorem dX3_compare_64 : decode cX3_compare 64 = .ok (.iload_n 3, 1) := by decide +kernel
theorem dX3_compare_65 : decode cX3_compare 65 = .ok (.bipush 40, 2) := by decide +kernel
theorem dX3_compare_67 : decode cX3_compare 67 = .ok (.if_icmp .ge 14, 3) := by decide +kernel
theorem dX3_compare_70 : decode cX3_compare 70 = .ok (.aload_n 0, 1) := by decide +kernel
theorem dX3_compare_71 : decode cX3_compare 71 = .ok (.getfield 9, 3) := by decide +kernel
theorem dX3_compare_74 : decode cX3_compare 74 = .ok (.iload_n 3, 1) := by decide +kernel
theorem dX3_compare_75 : decode cX3_compare 75 = .ok (.iaload, 1) := by decide +kernel
theorem dX3_compare_76 : decode cX3_compare 76 = .ok (.iload 5, 2) := by decide +kernel
theorem dX3_compare_78 : decode cX3_compare 78 = .ok (.if_icmp .eq 7, 3) := by decide +kernel
theorem dX3_compare_81 : decode cX3_compare 81 = .ok (.iconst 1, 1) := by decide +kernel
theorem dX3_compare_82 : decode cX3_compare 82 = .ok (.iload_n 3, 1) := by decide +kernel
theorem dX3_compare_83 : decode cX3_compare 83 = .ok (.iadd, 1) := by decide +kernel
theorem dX3_compare_84 : decode cX3_compare 84 = .ok (.ireturn, 1) := by decide +kernel
theorem dX3_compare_85 : decode cX3_compare 85 = .ok (.iinc 3 1, 3) := by decide +kernel
theorem dX3_compare_88 : decode cX3_compare 88 = .ok (.iinc 4 1, 3) := by decide +kernel
theorem dX3_compare_91 : decode cX3_compare 91 = .ok (.goto (-86), 3) := by decide +kernel
theorem dX3_compare_94 : decode cX3_compare 94 = .ok (.iload_n 3, 1) := by decide +kernel
theorem dX3_compare_95 : decode cX3_compare 95 = .ok (.iload_n 1, 1) := by decide +kernel
theorem dX3_compare_96 : decode cX3_compare 96 = .ok (.if_icmp .ge 8, 3) := by decide +kernel
theorem dX3_compare_99 : decode cX3_compare 99 = .ok (.bipush 99, 2) := by decide +kernel
theorem dX3_compare_101 : decode cX3_compare 101 = .ok (.goto 4, 3) := by decide +kernel
theorem dX3_compare_104 : decode cX3_compare 104 = .ok (.iconst 0, 1) := by decide +kernel
theorem dX3_compare_105 : decode cX3_compare 105 = .ok (.ireturn, 1) := by decide +kernel
theorem dX4_init_0 : decode cX4_init 0 = .ok (.aload_n 0, 1) := by decide +kernel
theorem dX4_init_1 : decode cX4_init 1 = .ok (.invokespecial 3, 3) := by decide +kernel
theorem dX4_init_4 : decode cX4_init 4 = .ok (.aload_n 0, 1) := by decide +kernel
theorem dX4_init_5 : decode cX4_init 5 = .ok (.iload_n 1, 1) := by decide +kernel
theorem dX4_init_6 : decode cX4_init 6 = .ok (.putfield 9, 3) := by decide +kernel
theorem dX4_init_9 : decode cX4_init 9 = .ok (.aload_n 0, 1) := by decide +kernel
theorem dX4_init_10 : decode cX4_init 10 = .ok (.iload_n 2, 1) := by decide +kernel
theorem dX4_init_11 : decode cX4_init 11 = .ok (.putfield 15, 3) := by decide +kernel
theorem dX4_init_14 : decode cX4_init 14 = .ok (.aload_n 0, 1) := by decide +kernel
theorem dX4_init_15 : decode cX4_init 15 = .ok (.bipush 40, 2) := by decide +kernel
theorem dX4_init_17 : decode cX4_init 17 = .ok (.newarray .int, 2) := by decide +kernel
theorem dX4_init_19 : decode cX4_init 19 = .ok (.putfield 18, 3) := by decide +kernel
theorem dX4_init_22 : decode cX4_init 22 = .ok (.aload_n 0, 1) := by decide +kernel
theorem dX4_init_23 : decode cX4_init 23 = .ok (.bipush 40, 2) := by decide +kernel
theorem dX4_init_25 : decode cX4_init 25 = .ok (.newarray .int, 2) := by decide +kernel
theorem dX4_init_27 : decode cX4_init 27 = .ok (.putfield 22, 3) := by decide +kernel
theorem dX4_init_30 : decode cX4_init 30 = .ok (.aload_n 0, 1) := by decide +kernel
theorem dX4_init_31 : decode cX4_init 31 = .ok (.iconst 1, 1) := by decide +kernel
theorem dX4_init_32 : decode cX4_init 32 = .ok (.putfield 25, 3) := by decide +kernel
theorem dX4_init_35 : decode cX4_init 35 = .ok (.aload_n 0, 1) := by decide +kernel
theorem dX4_init_36 : decode cX4_init 36 = .ok (.bipush 40, 2) := by decide +kernel
theorem dX4_init_38 : decode cX4_init 38 = .ok (.newarray .int, 2) := by decide +kernel
theorem dX4_init_40 : decode cX4_init 40 = .ok (.putfield 29, 3) := by decide +kernel
theorem dX4_init_43 : decode cX4_init 43 = .ok (.aload_n 0, 1) := by decide +kernel
theorem dX4_init_44 : decode cX4_init 44 = .ok (.bipush 40, 2) := by decide +kernel
theorem dX4_init_46 : decode cX4_init 46 = .ok (.newarray .int, 2) := by decide +kernel
theorem dX4_init_48 : decode cX4_init 48 = .ok (.putfield 32, 3) := by decide +kernel
theorem dX4_init_51 : decode cX4_init 51 = .ok (.aload_n 0, 1) := by decide +kernel
theorem dX4_init_52 : decode cX4_init 52 = .ok (.iconst 0, 1) := by decide +kernel
theorem dX4_init_53 : decode cX4_init 53 = .ok (.putfield 35, 3) := by decide +kernel
theorem dX4_init_56 : decode cX4_init 56 = .ok (.return_, 1) := by decide +kernel
theorem dX4_isOf_0 : decode cX4_isOf 0 = .ok (.iload_n 1, 1) := by decide +kernel
theorem dX4_isOf_1 : decode cX4_isOf 1 = .ok (.ifCond .eq 11, 3) := by decide +kernel
theorem dX4_isOf_4 : decode cX4_isOf 4 = .ok (.iload_n 1, 1) := by decide +kernel
theorem dX4_isOf_5 : decode cX4_isOf 5 = .ok (.aload_n 0, 1) := by decide +kernel
theorem dX4_isOf_6 : decode cX4_isOf 6 = .ok (.getfield 9, 3) := by decide +kernel
theorem dX4_isOf_9 : decode cX4_isOf 9 = .ok (.if_icmp .ne 7, 3) := by decide +kernel
theorem dX4_isOf_12 : decode cX4_isOf 12 = .ok (.iconst 1, 1) := by decide +kernel
theorem dX4_isOf_13 : decode cX4_isOf 13 = .ok (.goto 4, 3) := by decide +kernel
theorem dX4_isOf_16 : decode cX4_isOf 16 = .ok (.iconst 0, 1) := by decide +kernel
theorem dX4_isOf_17 : decode cX4_isOf 17 = .ok (.ireturn, 1) := by decide +kernel
theorem dX4_needOf_0 : decode cX4_needOf 0 = .ok (.aload_n 0, 1) := by decide +kernel
theorem dX4_needOf_1 : decode cX4_needOf 1 = .ok (.getfield 9, 3) := by decide +kernel
theorem dX4_needOf_4 : decode cX4_needOf 4 = .ok (.iconst 1, 1) := by decide +kernel
theorem dX4_needOf_5 : decode cX4_needOf 5 = .ok (.if_icmp .ne 9, 3) := by decide +kernel
theorem dX4_needOf_8 : decode cX4_needOf 8 = .ok (.iload_n 1, 1) := by decide +kernel
theorem dX4_needOf_9 : decode cX4_needOf 9 = .ok (.iconst 2, 1) := by decide +kernel
theorem dX4_needOf_10 : decode cX4_needOf 10 = .ok (.idiv, 1) := by decide +kernel
theorem dX4_needOf_11 : decode cX4_needOf 11 = .ok (.goto 4, 3) := by decide +kernel
theorem dX4_needOf_14 : decode cX4_needOf 14 = .ok (.iload_n 1, 1) := by decide +kernel
theorem dX4_needOf_15 : decode cX4_needOf 15 = .ok (.ireturn, 1) := by decide +kernel
theorem dX4_markOf_0 : decode cX4_markOf 0 = .ok (.aload_n 1, 1) := by decide +kernel
theorem dX4_markOf_1 : decode cX4_markOf 1 = .ok (.iload_n 2, 1) := by decide +kernel
theorem dX4_markOf_2 : decode cX4_markOf 2 = .ok (.invokevirtual 38, 3) := by decide +kernel
theorem dX4_markOf_5 : decode cX4_markOf 5 = .ok (.ifCond .ne 5, 3) := by decide +kernel
theorem dX4_markOf_8 : decode cX4_markOf 8 = .ok (.iconst (-1), 1) := by decide +kernel
theorem dX4_markOf_9 : decode cX4_markOf 9 = .ok (.ireturn, 1) := by decide +kernel
theorem dX4_markOf_10 : decode cX4_markOf 10 = .ok (.aload_n 0, 1) := by decide +kernel
theorem dX4_markOf_11 : decode cX4_markOf 11 = .ok (.getfield 18, 3) := by decide +kernel
theorem dX4_markOf_14 : decode cX4_markOf 14 = .ok (.iload_n 2, 1) := by decide +kernel
theorem dX4_markOf_15 : decode cX4_markOf 15 = .ok (.iaload, 1) := by decide +kernel
theorem dX4_markOf_16 : decode cX4_markOf 16 = .ok (.bipush 16, 2) := by decide +kernel
theorem dX4_markOf_18 : decode cX4_markOf 18 = .ok (.imul, 1) := by decide +kernel
theorem dX4_markOf_19 : decode cX4_markOf 19 = .ok (.aload_n 0, 1) := by decide +kernel
theorem dX4_markOf_20 : decode cX4_markOf 20 = .ok (.getfield 22, 3) := by decide +kernel
theorem dX4_markOf_23 : decode cX4_markOf 23 = .ok (.iload_n 2, 1) := by decide +kernel
theorem dX4_markOf_24 : decode cX4_markOf 24 = .ok (.iaload, 1) := by decide +kernel
theorem dX4_markOf_25 : decode cX4_markOf 25 = .ok (.iadd, 1) := by decide +kernel
theorem dX4_markOf_26 : decode cX4_markOf 26 = .ok (.iconst 4, 1) := by decide +kernel
theorem dX4_markOf_27 : decode cX4_markOf 27 = .ok (.imul, 1) := by decide +kernel
theorem dX4_markOf_28 : decode cX4_markOf 28 = .ok (.aload_n 1, 1) := by decide +kernel
theorem dX4_markOf_29 : decode cX4_markOf 29 = .ok (.getfield 44, 3) := by decide +kernel
theorem dX4_markOf_32 : decode cX4_markOf 32 = .ok (.iload_n 2, 1) := by decide +kernel
theorem dX4_markOf_33 : decode cX4_markOf 33 = .ok (.iaload, 1) := by decide +kernel
theorem dX4_markOf_34 : decode cX4_markOf 34 = .ok (.iconst 3, 1) := by decide +kernel
theorem dX4_markOf_35 : decode cX4_markOf 35 = .ok (.iand, 1) := by decide +kernel
theorem dX4_markOf_36 : decode cX4_markOf 36 = .ok (.iadd, 1) := by decide +kernel
theorem dX4_markOf_37 : decode cX4_markOf 37 = .ok (.ireturn, 1) := by decide +kernel
theorem dX4_keepLaid_0 : decode cX4_keepLaid 0 = .ok (.aload_n 0, 1) := by decide +kernel
theorem dX4_keepLaid_1 : decode cX4_keepLaid 1 = .ok (.aload_n 2, 1) := by decide +kernel
theorem dX4_keepLaid_2 : decode cX4_keepLaid 2 = .ok (.invokevirtual 47, 3) := by decide +kernel
theorem dX4_keepLaid_5 : decode cX4_keepLaid 5 = .ok (.putfield 35, 3) := by decide +kernel
theorem dX4_keepLaid_8 : decode cX4_keepLaid 8 = .ok (.iconst 0, 1) := by decide +kernel
theorem dX4_keepLaid_9 : decode cX4_keepLaid 9 = .ok (.istore_n 3, 1) := by decide +kernel
theorem dX4_keepLaid_10 : decode cX4_keepLaid 10 = .ok (.iload_n 3, 1) := by decide +kernel
theorem dX4_keepLaid_11 : decode cX4_keepLaid 11 = .ok (.aload_n 0, 1) := by decide +kernel
theorem dX4_keepLaid_12 : decode cX4_keepLaid 12 = .ok (.getfield 35, 3) := by decide +kernel
theorem dX4_keepLaid_15 : decode cX4_keepLaid 15 = .ok (.if_icmp .ge 20, 3) := by decide +kernel
theorem dX4_keepLaid_18 : decode cX4_keepLaid 18 = .ok (.aload_n 0, 1) := by decide +kernel
theorem dX4_keepLaid_19 : decode cX4_keepLaid 19 = .ok (.getfield 29, 3) := by decide +kernel
theorem dX4_keepLaid_22 : decode cX4_keepLaid 22 = .ok (.iload_n 3, 1) := by decide +kernel
theorem dX4_keepLaid_23 : decode cX4_keepLaid 23 = .ok (.aload_n 2, 1) := by decide +kernel
theorem dX4_keepLaid_24 : decode cX4_keepLaid 24 = .ok (.iload_n 3, 1) := by decide +kernel
theorem dX4_keepLaid_25 : decode cX4_keepLaid 25 = .ok (.invokevirtual 53, 3) := by decide +kernel
theorem dX4_keepLaid_28 : decode cX4_keepLaid 28 = .ok (.iastore, 1) := by decide +kernel
theorem dX4_keepLaid_29 : decode cX4_keepLaid 29 = .ok (.iinc 3 1, 3) := by decide +kernel
theorem dX4_keepLaid_32 : decode cX4_keepLaid 32 = .ok (.goto (-22), 3) := by decide +kernel
theorem dX4_keepLaid_35 : decode cX4_keepLaid 35 = .ok (.iconst 0, 1) := by decide +kernel
theorem dX4_keepLaid_36 : decode cX4_keepLaid 36 = .ok (.istore_n 3, 1) := by decide +kernel
theorem dX4_keepLaid_37 : decode cX4_keepLaid 37 = .ok (.iload_n 3, 1) := by decide +kernel
theorem dX4_keepLaid_38 : decode cX4_keepLaid 38 = .ok (.bipush 40, 2) := by decide +kernel
theorem dX4_keepLaid_40 : decode cX4_keepLaid 40 = .ok (.if_icmp .ge 21, 3) := by decide +kernel
theorem dX4_keepLaid_43 : decode cX4_keepLaid 43 = .ok (.aload_n 0, 1) := by decide +kernel
theorem dX4_keepLaid_44 : decode cX4_keepLaid 44 = .ok (.getfield 32, 3) := by decide +kernel
theorem dX4_keepLaid_47 : decode cX4_keepLaid 47 = .ok (.iload_n 3, 1) := by decide +kernel
theorem dX4_keepLaid_48 : decode cX4_keepLaid 48 = .ok (.aload_n 0, 1) := by decide +kernel
theorem dX4_keepLaid_49 : decode cX4_keepLaid 49 = .ok (.aload_n 1, 1) := by decide +kernel
theorem dX4_keepLaid_50 : decode cX4_keepLaid 50 = .ok (.iload_n 3, 1) := by decide +kernel
theorem dX4_keepLaid_51 : decode cX4_keepLaid 51 = .ok (.invokevirtual 57, 3) := by decide +kernel
theorem dX4_keepLaid_54 : decode cX4_keepLaid 54 = .ok (.iastore, 1) := by decide +kernel
theorem dX4_keepLaid_55 : decode cX4_keepLaid 55 = .ok (.iinc 3 1, 3) := by decide +kernel
theorem dX4_keepLaid_58 : decode cX4_keepLaid 58 = .ok (.goto (-21), 3) := by decide +kernel
theorem dX4_keepLaid_61 : decode cX4_keepLaid 61 = .ok (.return_, 1) := by decide +kernel
theorem dX4_stalePages_0 : decode cX4_stalePages 0 = .ok (.iconst 0, 1) := by decide +kernel
theorem dX4_stalePages_1 : decode cX4_stalePages 1 = .ok (.istore_n 2, 1) := by decide +kernel
theorem dX4_stalePages_2 : decode cX4_stalePages 2 = .ok (.iconst 0, 1) := by decide +kernel
theorem dX4_stalePages_3 : decode cX4_stalePages 3 = .ok (.istore_n 3, 1) := by decide +kernel
theorem dX4_stalePages_4 : decode cX4_stalePages 4 = .ok (.iconst (-1), 1) := by decide +kernel
theorem dX4_stalePages_5 : decode cX4_stalePages 5 = .ok (.istore 4, 2) := by decide +kernel
theorem dX4_stalePages_7 : decode cX4_stalePages 7 = .ok (.iconst 0, 1) := by decide +kernel
theorem dX4_stalePages_8 : decode cX4_stalePages 8 = .ok (.istore 5, 2) := by decide +kernel
theorem dX4_stalePages_10 : decode cX4_stalePages 10 = .ok (.iload 5, 2) := by decide +kernel
theorem dX4_stalePages_12 : decode cX4_stalePages 12 = .ok (.bipush 40, 2) := by decide +kernel
theorem dX4_stalePages_14 : decode cX4_stalePages 14 = .ok (.if_icmp .ge 64, 3) := by decide +kernel
theorem dX4_stalePages_17 : decode cX4_stalePages 17 = .ok (.iload_n 3, 1) := by decide +kernel
theorem dX4_stalePages_18 : decode cX4_stalePages 18 = .ok (.iconst 1, 1) := by decide +kernel
theorem dX4_stalePages_19 : decode cX4_stalePages 19 = .ok (.iadd, 1) := by decide +kernel
theorem dX4_stalePages_20 : decode cX4_stalePages 20 = .ok (.aload_n 0, 1) := by decide +kernel
theorem dX4_stalePages_21 : decode cX4_stalePages 21 = .ok (.getfield 35, 3) := by decide +kernel
theorem dX4_stalePages_24 : decode cX4_stalePages 24 = .ok (.if_icmp .ge 19, 3) := by decide +kernel
theorem dX4_stalePages_27 : decode cX4_stalePages 27 = .ok (.aload_n 0, 1) := by decide +kernel
theorem dX4_stalePages_28 : decode cX4_stalePages 28 = .ok (.getfield 29, 3) := by decide +kernel
theorem dX4_stalePages_31 : decode cX4_stalePages 31 = .ok (.iload_n 3, 1) := by decide +kernel
theorem dX4_stalePages_32 : decode cX4_stalePages 32 = .ok (.iconst 1, 1) := by decide +kernel
theorem dX4_stalePages_33 : decode cX4_stalePages 33 = .ok (.iadd, 1) := by decide +kernel
theorem dX4_stalePages_34 : decode cX4_stalePages 34 = .ok (.iaload, 1) := by decide +kernel
theorem dX4_stalePages_35 : decode cX4_stalePages 35 = .ok (.iload 5, 2) := by decide +kernel
theorem dX4_stalePages_37 : decode cX4_stalePages 37 = .ok (.if_icmp .ne 6, 3) := by decide +kernel
theorem dX4_stalePages_40 : decode cX4_stalePages 40 = .ok (.iinc 3 1, 3) := by decide +kernel
theorem dX4_stalePages_43 : decode cX4_stalePages 43 = .ok (.iload 4, 2) := by decide +kernel
theorem dX4_stalePages_45 : decode cX4_stalePages 45 = .ok (.iload_n 3, 1) := by decide +kernel
theorem dX4_stalePages_46 : decode cX4_stalePages 46 = .ok (.if_icmp .eq 26, 3) := by decide +kernel
theorem dX4_stalePages_49 : decode cX4_stalePages 49 = .ok (.aload_n 0, 1) := by decide +kernel
theorem dX4_stalePages_50 : decode cX4_stalePages 50 = .ok (.getfield 32, 3) := by decide +kernel
theorem dX4_stalePages_53 : decode cX4_stalePages 53 = .ok (.iload 5, 2) := by decide +kernel
theorem dX4_stalePages_55 : decode cX4_stalePages 55 = .ok (.iaload, 1) := by decide +kernel
theorem dX4_stalePages_56 : decode cX4_stalePages 56 = .ok (.aload_n 0, 1) := by decide +kernel
theorem dX4_stalePages_57 : decode cX4_stalePages 57 = .ok (.aload_n 1, 1) := by decide +kernel
theorem dX4_stalePages_58 : decode cX4_stalePages 58 = .ok (.iload 5, 2) := by decide +kernel
theorem dX4_stalePages_60 : decode cX4_stalePages 60 = .ok (.invokevirtual 57, 3) := by decide +kernel
theorem dX4_stalePages_63 : decode cX4_stalePages 63 = .ok (.if_icmp .eq 9, 3) := by decide +kernel
theorem dX4_stalePages_66 : decode cX4_stalePages 66 = .ok (.iload_n 3, 1) := by decide +kernel
theorem dX4_stalePages_67 : decode cX4_stalePages 67 = .ok (.istore 4, 2) := by decide +kernel
theorem dX4_stalePages_69 : decode cX4_stalePages 69 = .ok (.iinc 2 1, 3) := by decide +kernel
theorem dX4_stalePages_72 : decode cX4_stalePages 72 = .ok (.iinc 5 1, 3) := by decide +kernel
theorem dX4_stalePages_75 : decode cX4_stalePages 75 = .ok (.goto (-65), 3) := by decide +kernel
theorem dX4_stalePages_78 : decode cX4_stalePages 78 = .ok (.iload_n 2, 1) := by decide +kernel
theorem dX4_stalePages_79 : decode cX4_stalePages 79 = .ok (.ireturn, 1) := by decide +kernel
theorem dX5_init_0 : decode cX5_init 0 = .ok (.aload_n 0, 1) := by decide +kernel
theorem dX5_init_1 : decode cX5_init 1 = .ok (.invokespecial 3, 3) := by decide +kernel
theorem dX5_init_4 : decode cX5_init 4 = .ok (.aload_n 0, 1) := by decide +kernel
theorem dX5_init_5 : decode cX5_init 5 = .ok (.new 9, 3) := by decide +kernel
theorem dX5_init_8 : decode cX5_init 8 = .ok (.dup, 1) := by decide +kernel
theorem dX5_init_9 : decode cX5_init 9 = .ok (.invokespecial 11, 3) := by decide +kernel
theorem dX5_init_12 : decode cX5_init 12 = .ok (.putfield 12, 3) := by decide +kernel
theorem dX5_init_15 : decode cX5_init 15 = .ok (.aload_n 0, 1) := by decide +kernel
theorem dX5_init_16 : decode cX5_init 16 = .ok (.new 16, 3) := by decide +kernel
theorem dX5_init_19 : decode cX5_init 19 = .ok (.dup, 1) := by decide +kernel
theorem dX5_init_20 : decode cX5_init 20 = .ok (.aload_n 0, 1) := by decide +kernel
theorem dX5_init_21 : decode cX5_init 21 = .ok (.getfield 12, 3) := by decide +kernel
theorem dX5_init_24 : decode cX5_init 24 = .ok (.invokespecial 18, 3) := by decide +kernel
theorem dX5_init_27 : decode cX5_init 27 = .ok (.putfield 21, 3) := by decide +kernel
theorem dX5_init_30 : decode cX5_init 30 = .ok (.aload_n 0, 1) := by decide +kernel
theorem dX5_init_31 : decode cX5_init 31 = .ok (.new 25, 3) := by decide +kernel
theorem dX5_init_34 : decode cX5_init 34 = .ok (.dup, 1) := by decide +kernel
theorem dX5_init_35 : decode cX5_init 35 = .ok (.aload_n 0, 1) := by decide +kernel
theorem dX5_init_36 : decode cX5_init 36 = .ok (.getfield 21, 3) := by decide +kernel
theorem dX5_init_39 : decode cX5_init 39 = .ok (.invokespecial 27, 3) := by decide +kernel
theorem dX5_init_42 : decode cX5_init 42 = .ok (.putfield 30, 3) := by decide +kernel
theorem dX5_init_45 : decode cX5_init 45 = .ok (.aload_n 0, 1) := by decide +kernel
theorem dX5_init_46 : decode cX5_init 46 = .ok (.new 34, 3) := by decide +kernel
theorem dX5_init_49 : decode cX5_init 49 = .ok (.dup, 1) := by decide +kernel
theorem dX5_init_50 : decode cX5_init 50 = .ok (.invokespecial 36, 3) := by decide +kernel
theorem dX5_init_53 : decode cX5_init 53 = .ok (.putfield 37, 3) := by decide +kernel
theorem dX5_init_56 : decode cX5_init 56 = .ok (.aload_n 0, 1) := by decide +kernel
theorem dX5_init_57 : decode cX5_init 57 = .ok (.bipush 6, 2) := by decide +kernel
theorem dX5_init_59 : decode cX5_init 59 = .ok (.newarray .int, 2) := by decide +kernel
theorem dX5_init_61 : decode cX5_init 61 = .ok (.putfield 41, 3) := by decide +kernel
theorem dX5_init_64 : decode cX5_init 64 = .ok (.aload_n 0, 1) := by decide +kernel
theorem dX5_init_65 : decode cX5_init 65 = .ok (.iconst 0, 1) := by decide +kernel
theorem dX5_init_66 : decode cX5_init 66 = .ok (.putfield 45, 3) := by decide +kernel
theorem dX5_init_69 : decode cX5_init 69 = .ok (.aload_n 0, 1) := by decide +kernel
theorem dX5_init_70 : decode cX5_init 70 = .ok (.bipush 8, 2) := by decide +kernel
theorem dX5_init_72 : decode cX5_init 72 = .ok (.putfield 49, 3) := by decide +kernel
theorem dX5_init_75 : decode cX5_init 75 = .ok (.aload_n 0, 1) := by decide +kernel
theorem dX5_init_76 : decode cX5_init 76 = .ok (.bipush 40, 2) := by decide +kernel
theorem dX5_init_78 : decode cX5_init 78 = .ok (.putfield 52, 3) := by decide +kernel
theorem dX5_init_81 : decode cX5_init 81 = .ok (.aload_n 0, 1) := by decide +kernel
theorem dX5_init_82 : decode cX5_init 82 = .ok (.iconst 4, 1) := by decide +kernel
theorem dX5_init_83 : decode cX5_init 83 = .ok (.putfield 55, 3) := by decide +kernel
theorem dX5_init_86 : decode cX5_init 86 = .ok (.aload_n 0, 1) := by decide +kernel
theorem dX5_init_87 : decode cX5_init 87 = .ok (.iconst 5, 1) := by decide +kernel
theorem dX5_init_88 : decode cX5_init 88 = .ok (.putfield 58, 3) := by decide +kernel
theorem dX5_init_91 : decode cX5_init 91 = .ok (.return_, 1) := by decide +kernel
theorem dX5_bar_0 : decode cX5_bar 0 = .ok (.iload_n 1, 1) := by decide +kernel
theorem dX5_bar_1 : decode cX5_bar 1 = .ok (.iconst 1, 1) := by decide +kernel
theorem dX5_bar_2 : decode cX5_bar 2 = .ok (.bipush 60, 2) := by decide +kernel
theorem dX5_bar_4 : decode cX5_bar 4 = .ok (.invokestatic 61, 3) := by decide +kernel
theorem dX5_bar_7 : decode cX5_bar 7 = .ok (.ifCond .ne 10, 3) := by decide +kernel
theorem dX5_bar_10 : decode cX5_bar 10 = .ok (.aload_n 0, 1) := by decide +kernel
theorem dX5_bar_11 : decode cX5_bar 11 = .ok (.ldc 65, 2) := by decide +kernel
theorem dX5_bar_13 : decode cX5_bar 13 = .ok (.invokevirtual 66, 3) := by decide +kernel
theorem dX5_bar_16 : decode cX5_bar 16 = .ok (.ireturn, 1) := by decide +kernel
theorem dX5_bar_17 : decode cX5_bar 17 = .ok (.aload_n 0, 1) := by decide +kernel
theorem dX5_bar_18 : decode cX5_bar 18 = .ok (.aload_n 0, 1) := by decide +kernel
theorem dX5_bar_19 : decode cX5_bar 19 = .ok (.getfield 12, 3) := by decide +kernel
theorem dX5_bar_22 : decode cX5_bar 22 = .ok (.iload_n 1, 1) := by decide +kernel
theorem dX5_bar_23 : decode cX5_bar 23 = .ok (.invokevirtual 70, 3) := by decide +kernel
theorem dX5_bar_26 : decode cX5_bar 26 = .ok (.invokevirtual 66, 3) := by decide +kernel
theorem dX5_bar_29 : decode cX5_bar 29 = .ok (.ireturn, 1) := by decide +kernel
theorem dX5_voice_0 : decode cX5_voice 0 = .ok (.iload_n 1, 1) := by decide +kernel
theorem dX5_voice_1 : decode cX5_voice 1 = .ok (.iconst 2, 1) := by decide +kernel
theorem dX5_voice_2 : decode cX5_voice 2 = .ok (.if_icmp .ne 8, 3) := by decide +kernel
theorem dX5_voice_5 : decode cX5_voice 5 = .ok (.bipush 11, 2) := by decide +kernel
theorem dX5_voice_7 : decode cX5_voice 7 = .ok (.goto 4, 3) := by decide +kernel
theorem dX5_voice_10 : decode cX5_voice 10 = .ok (.iconst 0, 1) := by decide +kernel
theorem dX5_voice_11 : decode cX5_voice 11 = .ok (.istore_n 3, 1) := by decide +kernel
theorem dX5_voice_12 : decode cX5_voice 12 = .ok (.iload_n 1, 1) := by decide +kernel
theorem dX5_voice_13 : decode cX5_voice 13 = .ok (.iconst 0, 1) := by decide +kernel
theorem dX5_voice_14 : decode cX5_voice 14 = .ok (.iconst 2, 1) := by decide +kernel
theorem dX5_voice_15 : decode cX5_voice 15 = .ok (.invokestatic 61, 3) := by decide +kernel
theorem dX5_voice_18 : decode cX5_voice 18 = .ok (.ifCond .eq 13, 3) := by decide +kernel
theorem dX5_voice_21 : decode cX5_voice 21 = .ok (.iload_n 2, 1) := by decide +kernel
theorem dX5_voice_22 : decode cX5_voice 22 = .ok (.iload_n 3, 1) := by decide +kernel
theorem dX5_voice_23 : decode cX5_voice 23 = .ok (.ineg, 1) := by decide +kernel
theorem dX5_voice_24 : decode cX5_voice 24 = .ok (.iload_n 3, 1) := by decide +kernel
theorem dX5_voice_25 : decode cX5_voice 25 = .ok (.invokestatic 61, 3) := by decide +kernel
theorem dX5_voice_28 : decode cX5_voice 28 = .ok (.ifCond .ne 10, 3) := by decide +kernel
theorem dX5_voice_31 : decode cX5_voice 31 = .ok (.aload_n 0, 1) := by decide +kernel
theorem dX5_voice_32 : decode cX5_voice 32 = .ok (.ldc 65, 2) := by decide +kernel
theorem dX5_voice_34 : decode cX5_voice 34 = .ok (.invokevirtual 66, 3) := by decide +kernel
theorem dX5_voice_37 : decode cX5_voice 37 = .ok (.ireturn, 1) := by decide +kernel
theorem dX5_voice_38 : decode cX5_voice 38 = .ok (.aload_n 0, 1) := by decide +kernel
theorem dX5_voice_39 : decode cX5_voice 39 = .ok (.aload_n 0, 1) := by decide +kernel
theorem dX5_voice_40 : decode cX5_voice 40 = .ok (.getfield 12, 3) := by decide +kernel
theorem dX5_voice_43 : decode cX5_voice 43 = .ok (.iload_n 1, 1) := by decide +kernel
theorem dX5_voice_44 : decode cX5_voice 44 = .ok (.iload_n 2, 1) := by decide +kernel
theorem dX5_voice_45 : decode cX5_voice 45 = .ok (.invokevirtual 73, 3) := by decide +kernel
theorem dX5_voice_48 : decode cX5_voice 48 = .ok (.invokevirtual 66, 3) := by decide +kernel
theorem dX5_voice_51 : decode cX5_voice 51 = .ok (.ireturn, 1) := by decide +kernel
theorem dX5_as_0 : decode cX5_as 0 = .ok (.aload_n 0, 1) := by decide +kernel
theorem dX5_as_1 : decode cX5_as 1 = .ok (.getfield 12, 3) := by decide +kernel
theorem dX5_as_4 : decode cX5_as 4 = .ok (.iload_n 1, 1) := by decide +kernel
theorem dX5_as_5 : decode cX5_as 5 = .ok (.invokevirtual 77, 3) := by decide +kernel
theorem dX5_as_8 : decode cX5_as 8 = .ok (.astore_n 3, 1) := by decide +kernel
theorem dX5_as_9 : decode cX5_as 9 = .ok (.aload_n 3, 1) := by decide +kernel
theorem dX5_as_10 : decode cX5_as 10 = .ok (.ifnull 12, 3) := by decide +kernel
theorem dX5_as_13 : decode cX5_as 13 = .ok (.iload_n 2, 1) := by decide +kernel
theorem dX5_as_14 : decode cX5_as 14 = .ok (.iconst 0, 1) := by decide +kernel
theorem dX5_as_15 : decode cX5_as 15 = .ok (.iconst 2, 1) := by decide +kernel
theorem dX5_as_16 : decode cX5_as 16 = .ok (.invokestatic 61, 3) := by decide +kernel
theorem dX5_as_19 : decode cX5_as 19 = .ok (.ifCond .ne 10, 3) := by decide +kernel
theorem dX5_as_22 : decode cX5_as 22 = .ok (.aload_n 0, 1) := by decide +kernel
theorem dX5_as_23 : decode cX5_as 23 = .ok (.ldc 65, 2) := by decide +kernel
theorem dX5_as_25 : decode cX5_as 25 = .ok (.invokevirtual 66, 3) := by decide +kernel
theorem dX5_as_28 : decode cX5_as 28 = .ok (.ireturn, 1) := by decide +kernel
theorem dX5_as_29 : decode cX5_as 29 = .ok (.aload_n 0, 1) := by decide +kernel
theorem dX5_as_30 : decode cX5_as 30 = .ok (.aload_n 3, 1) := by decide +kernel
theorem dX5_as_31 : decode cX5_as 31 = .ok (.iload_n 2, 1) := by decide +kernel
theorem dX5_as_32 : decode cX5_as 32 = .ok (.invokevirtual 81, 3) := by decide +kernel
theorem dX5_as_35 : decode cX5_as 35 = .ok (.ifCond .eq 10, 3) := by decide +kernel
theorem dX5_as_38 : decode cX5_as 38 = .ok (.aload_n 3, 1) := by decide +kernel
theorem dX5_as_39 : decode cX5_as 39 = .ok (.getfield 87, 3) := by decide +kernel
theorem dX5_as_42 : decode cX5_as 42 = .ok (.goto 5, 3) := by decide +kernel
theorem dX5_as_45 : decode cX5_as 45 = .ok (.ldc 90, 2) := by decide +kernel
theorem dX5_as_47 : decode cX5_as 47 = .ok (.invokevirtual 66, 3) := by decide +kernel
theorem dX5_as_50 : decode cX5_as 50 = .ok (.ireturn, 1) := by decide +kernel
theorem dX5_notes_0 : decode cX5_notes 0 = .ok (.aload_n 0, 1) := by decide +kernel
theorem dX5_notes_1 : decode cX5_notes 1 = .ok (.getfield 12, 3) := by decide +kernel
theorem dX5_notes_4 : decode cX5_notes 4 = .ok (.iload_n 1, 1) := by decide +kernel
theorem dX5_notes_5 : decode cX5_notes 5 = .ok (.invokevirtual 77, 3) := by decide +kernel
theorem dX5_notes_8 : decode cX5_notes 8 = .ok (.astore 5, 2) := by decide +kernel
theorem dX5_notes_10 : decode cX5_notes 10 = .ok (.aload 5, 2) := by decide +kernel
theorem dX5_notes_12 : decode cX5_notes 12 = .ok (.ifnull 24, 3) := by decide +kernel
theorem dX5_notes_15 : decode cX5_notes 15 = .ok (.aload_n 0, 1) := by decide +kernel
theorem dX5_notes_16 : decode cX5_notes 16 = .ok (.getfield 12, 3) := by decide +kernel
theorem dX5_notes_19 : decode cX5_notes 19 = .ok (.iload_n 2, 1) := by decide +kernel
theorem dX5_notes_20 : decode cX5_notes 20 = .ok (.invokevirtual 91, 3) := by decide +kernel
theorem dX5_notes_23 : decode cX5_notes 23 = .ok (.ifCond .eq 13, 3) := by decide +kernel
theorem dX5_notes_26 : decode cX5_notes 26 = .ok (.iload_n 3, 1) := by decide +kernel
theorem dX5_notes_27 : decode cX5_notes 27 = .ok (.iconst 0, 1) := by decide +kernel
theorem dX5_notes_28 : decode cX5_notes 28 = .ok (.bipush 16, 2) := by decide +kernel
theorem dX5_notes_30 : decode cX5_notes 30 = .ok (.invokestatic 61, 3) := by decide +kernel
theorem dX5_notes_33 : decode cX5_notes 33 = .ok (.ifCond .ne 10, 3) := by decide +kernel
theorem dX5_notes_36 : decode cX5_notes 36 = .ok (.aload_n 0, 1) := by decide +kernel
theorem dX5_notes_37 : decode cX5_notes 37 = .ok (.ldc 65, 2) := by decide +kernel
theorem dX5_notes_39 : decode cX5_notes 39 = .ok (.invokevirtual 66, 3) := by decide +kernel
theorem dX5_notes_42 : decode cX5_notes 42 = .ok (.ireturn, 1) := by decide +kernel
theorem dX5_notes_43 : decode cX5_notes 43 = .ok (.iload 4, 2) := by decide +kernel
theorem dX5_notes_45 : decode cX5_notes 45 = .ok (.iconst 0, 1) := by decide +kernel
theorem dX5_notes_46 : decode cX5_notes 46 = .ok (.iload_n 3, 1) := by decide +kernel
theorem dX5_notes_47 : decode cX5_notes 47 = .ok (.ifCond .ne 7, 3) := by decide +kernel
theorem dX5_notes_50 : decode cX5_notes 50 = .ok (.iconst 0, 1) := by decide +kernel
theorem dX5_notes_51 : decode cX5_notes 51 = .ok (.goto 5, 3) := by decide +kernel
theorem dX5_notes_54 : decode cX5_notes 54 = .ok (.bipush 9, 2) := by decide +kernel
theorem dX5_notes_56 : decode cX5_notes 56 = .ok (.invokestatic 61, 3) := by decide +kernel
theorem dX5_notes_59 : decode cX5_notes 59 = .ok (.ifCond .ne 10, 3) := by decide +kernel
theorem dX5_notes_62 : decode cX5_notes 62 = .ok (.aload_n 0, 1) := by decide +kernel
theorem dX5_notes_63 : decode cX5_notes 63 = .ok (.ldc 65, 2) := by decide +kernel
theorem dX5_notes_65 : decode cX5_notes 65 = .ok (.invokevirtual 66, 3) := by decide +kernel
theorem dX5_notes_68 : decode cX5_notes 68 = .ok (.ireturn, 1) := by decide +kernel
theorem dX5_notes_69 : decode cX5_notes 69 = .ok (.aload 5, 2) := by decide +kernel
theorem dX5_notes_71 : decode cX5_notes 71 = .ok (.getfield 94, 3) := by decide +kernel
theorem dX5_notes_74 : decode cX5_notes 74 = .ok (.iload_n 2, 1) := by decide +kernel
theorem dX5_notes_75 : decode cX5_notes 75 = .ok (.iaload, 1) := by decide +kernel
theorem dX5_notes_76 : decode cX5_notes 76 = .ok (.istore 6, 2) := by decide +kernel
theorem dX5_notes_78 : decode cX5_notes 78 = .ok (.aload 5, 2) := by decide +kernel
theorem dX5_notes_80 : decode cX5_notes 80 = .ok (.getfield 94, 3) := by decide +kernel
theorem dX5_notes_83 : decode cX5_notes 83 = .ok (.iload_n 2, 1) := by decide +kernel
theorem dX5_notes_84 : decode cX5_notes 84 = .ok (.iload_n 3, 1) := by decide +kernel
theorem dX5_notes_85 : decode cX5_notes 85 = .ok (.iastore, 1) := by decide +kernel
theorem dX5_notes_86 : decode cX5_notes 86 = .ok (.aload 5, 2) := by decide +kernel
theorem dX5_notes_88 : decode cX5_notes 88 = .ok (.getfield 97, 3) := by decide +kernel
theorem dX5_notes_91 : decode cX5_notes 91 = .ok (.iload_n 2, 1) := by decide +kernel
theorem dX5_notes_92 : decode cX5_notes 92 = .ok (.iload 4, 2) := by decide +kernel
theorem dX5_notes_94 : decode cX5_notes 94 = .ok (.iastore, 1) := by decide +kernel
theorem dX5_notes_95 : decode cX5_notes 95 = .ok (.aload_n 0, 1) := by decide +kernel
theorem dX5_notes_96 : decode cX5_notes 96 = .ok (.iload 6, 2) := by decide +kernel
theorem dX5_notes_98 : decode cX5_notes 98 = .ok (.invokevirtual 66, 3) := by decide +kernel
theorem dX5_notes_101 : decode cX5_notes 101 = .ok (.ireturn, 1) := by decide +kernel
theorem dX5_sign_0 : decode cX5_sign 0 = .ok (.aload_n 0, 1) := by decide +kernel
theorem dX5_sign_1 : decode cX5_sign 1 = .ok (.getfield 12, 3) := by decide +kernel
theorem dX5_sign_4 : decode cX5_sign 4 = .ok (.iload_n 1, 1) := by decide +kernel
theorem dX5_sign_5 : decode cX5_sign 5 = .ok (.invokevirtual 91, 3) := by decide +kernel
theorem dX5_sign_8 : decode cX5_sign 8 = .ok (.ifCond .eq 13, 3) := by decide +kernel
theorem dX5_sign_11 : decode cX5_sign 11 = .ok (.iload_n 2, 1) := by decide +kernel
theorem dX5_sign_12 : decode cX5_sign 12 = .ok (.iconst 0, 1) := by decide +kernel
theorem dX5_sign_13 : decode cX5_sign 13 = .ok (.bipush 7, 2) := by decide +kernel
theorem dX5_sign_15 : decode cX5_sign 15 = .ok (.invokestatic 61, 3) := by decide +kernel
theorem dX5_sign_18 : decode cX5_sign 18 = .ok (.ifCond .ne 10, 3) := by decide +kernel
theorem dX5_sign_21 : decode cX5_sign 21 = .ok (.aload_n 0, 1) := by decide +kernel
theorem dX5_sign_22 : decode cX5_sign 22 = .ok (.ldc 65, 2) := by decide +kernel
theorem dX5_sign_24 : decode cX5_sign 24 = .ok (.invokevirtual 66, 3) := by decide +kernel
theorem dX5_sign_27 : decode cX5_sign 27 = .ok (.ireturn, 1) := by decide +kernel
theorem dX5_sign_28 : decode cX5_sign 28 = .ok (.aload_n 0, 1) := by decide +kernel
theorem dX5_sign_29 : decode cX5_sign 29 = .ok (.getfield 12, 3) := by decide +kernel
theorem dX5_sign_32 : decode cX5_sign 32 = .ok (.getfield 100, 3) := by decide +kernel
theorem dX5_sign_35 : decode cX5_sign 35 = .ok (.iload_n 1, 1) := by decide +kernel
theorem dX5_sign_36 : decode cX5_sign 36 = .ok (.iaload, 1) := by decide +kernel
theorem dX5_sign_37 : decode cX5_sign 37 = .ok (.istore_n 3, 1) := by decide +kernel
theorem dX5_sign_38 : decode cX5_sign 38 = .ok (.aload_n 0, 1) := by decide +kernel
theorem dX5_sign_39 : decode cX5_sign 39 = .ok (.getfield 12, 3) := by decide +kernel
theorem dX5_sign_42 : decode cX5_sign 42 = .ok (.getfield 100, 3) := by decide +kernel
theorem dX5_sign_45 : decode cX5_sign 45 = .ok (.iload_n 1, 1) := by decide +kernel
theorem dX5_sign_46 : decode cX5_sign 46 = .ok (.iload_n 2, 1) := by decide +kernel
theorem dX5_sign_47 : decode cX5_sign 47 = .ok (.iastore, 1) := by decide +kernel
theorem dX5_sign_48 : decode cX5_sign 48 = .ok (.aload_n 0, 1) := by decide +kernel
theorem dX5_sign_49 : decode cX5_sign 49 = .ok (.iload_n 3, 1) := by decide +kernel
theorem dX5_sign_50 : decode cX5_sign 50 = .ok (.invokevirtual 66, 3) := by decide +kernel
theorem dX5_sign_53 : decode cX5_sign 53 = .ok (.ireturn, 1) := by decide +kernel
theorem dX5_cut_0 : decode cX5_cut 0 = .ok (.aload_n 0, 1) := by decide +kernel
theorem dX5_cut_1 : decode cX5_cut 1 = .ok (.getfield 12, 3) := by decide +kernel
theorem dX5_cut_4 : decode cX5_cut 4 = .ok (.iload_n 1, 1) := by decide +kernel
theorem dX5_cut_5 : decode cX5_cut 5 = .ok (.invokevirtual 91, 3) := by decide +kernel
theorem dX5_cut_8 : decode cX5_cut 8 = .ok (.ifCond .eq 28, 3) := by decide +kernel
theorem dX5_cut_11 : decode cX5_cut 11 = .ok (.aload_n 0, 1) := by decide +kernel
theorem dX5_cut_12 : decode cX5_cut 12 = .ok (.getfield 12, 3) := by decide +kernel
theorem dX5_cut_15 : decode cX5_cut 15 = .ok (.iload_n 2, 1) := by decide +kernel
theorem dX5_cut_16 : decode cX5_cut 16 = .ok (.invokevirtual 91, 3) := by decide +kernel
theorem dX5_cut_19 : decode cX5_cut 19 = .ok (.ifCond .eq 17, 3) := by decide +kernel
theorem dX5_cut_22 : decode cX5_cut 22 = .ok (.iload_n 1, 1) := by decide +kernel
theorem dX5_cut_23 : decode cX5_cut 23 = .ok (.iload_n 2, 1) := by decide +kernel
theorem dX5_cut_24 : decode cX5_cut 24 = .ok (.if_icmp .gt 12, 3) := by decide +kernel
theorem dX5_cut_27 : decode cX5_cut 27 = .ok (.iload_n 3, 1) := by decide +kernel
theorem dX5_cut_28 : decode cX5_cut 28 = .ok (.iconst 0, 1) := by decide +kernel
theorem dX5_cut_29 : decode cX5_cut 29 = .ok (.iconst 1, 1) := by decide +kernel
theorem dX5_cut_30 : decode cX5_cut 30 = .ok (.invokestatic 61, 3) := by decide +kernel
theorem dX5_cut_33 : decode cX5_cut 33 = .ok (.ifCond .ne 10, 3) := by decide +kernel
theorem dX5_cut_36 : decode cX5_cut 36 = .ok (.aload_n 0, 1) := by decide +kernel
theorem dX5_cut_37 : decode cX5_cut 37 = .ok (.ldc 65, 2) := by decide +kernel
theorem dX5_cut_39 : decode cX5_cut 39 = .ok (.invokevirtual 66, 3) := by decide +kernel
theorem dX5_cut_42 : decode cX5_cut 42 = .ok (.ireturn, 1) := by decide +kernel
theorem dX5_cut_43 : decode cX5_cut 43 = .ok (.aload_n 0, 1) := by decide +kernel
theorem dX5_cut_44 : decode cX5_cut 44 = .ok (.aload_n 0, 1) := by decide +kernel
theorem dX5_cut_45 : decode cX5_cut 45 = .ok (.getfield 12, 3) := by decide +kernel
theorem dX5_cut_48 : decode cX5_cut 48 = .ok (.iload_n 1, 1) := by decide +kernel
theorem dX5_cut_49 : decode cX5_cut 49 = .ok (.iload_n 2, 1) := by decide +kernel
theorem dX5_cut_50 : decode cX5_cut 50 = .ok (.iload_n 3, 1) := by decide +kernel
theorem dX5_cut_51 : decode cX5_cut 51 = .ok (.iconst 1, 1) := by decide +kernel
theorem dX5_cut_52 : decode cX5_cut 52 = .ok (.if_icmp .ne 7, 3) := by decide +kernel
theorem dX5_cut_55 : decode cX5_cut 55 = .ok (.iconst 1, 1) := by decide +kernel
theorem dX5_cut_56 : decode cX5_cut 56 = .ok (.goto 4, 3) := by decide +kernel
theorem dX5_cut_59 : decode cX5_cut 59 = .ok (.iconst 0, 1) := by decide +kernel
theorem dX5_cut_60 : decode cX5_cut 60 = .ok (.invokevirtual 103, 3) := by decide +kernel
theorem dX5_cut_63 : decode cX5_cut 63 = .ok (.invokevirtual 66, 3) := by decide +kernel
theorem dX5_cut_66 : decode cX5_cut 66 = .ok (.ireturn, 1) := by decide +kernel
theorem dX5_stage_0 : decode cX5_stage 0 = .ok (.aload_n 0, 1) := by decide +kernel
theorem dX5_stage_1 : decode cX5_stage 1 = .ok (.getfield 12, 3) := by decide +kernel
theorem dX5_stage_4 : decode cX5_stage 4 = .ok (.iload_n 1, 1) := by decide +kernel
theorem dX5_stage_5 : decode cX5_stage 5 = .ok (.invokevirtual 77, 3) := by decide +kernel
theorem dX5_stage_8 : decode cX5_stage 8 = .ok (.astore_n 3, 1) := by decide +kernel
theorem dX5_stage_9 : decode cX5_stage 9 = .ok (.aload_n 3, 1) := by decide +kernel
theorem dX5_stage_10 : decode cX5_stage 10 = .ok (.ifnull 12, 3) := by decide +kernel
theorem dX5_stage_13 : decode cX5_stage 13 = .ok (.iload_n 2, 1) := by decide +kernel
theorem dX5_stage_14 : decode cX5_stage 14 = .ok (.iconst 0, 1) := by decide +kernel
theorem dX5_stage_15 : decode cX5_stage 15 = .ok (.iconst 1, 1) := by decide +kernel
theorem dX5_stage_16 : decode cX5_stage 16 = .ok (.invokestatic 61, 3) := by decide +kernel
theorem dX5_stage_19 : decode cX5_stage 19 = .ok (.ifCond .ne 10, 3) := by decide +kernel
theorem dX5_stage_22 : decode cX5_stage 22 = .ok (.aload_n 0, 1) := by decide +kernel
theorem dX5_stage_23 : decode cX5_stage 23 = .ok (.ldc 65, 2) := by decide +kernel
theorem dX5_stage_25 : decode cX5_stage 25 = .ok (.invokevirtual 66, 3) := by decide +kernel
theorem dX5_stage_28 : decode cX5_stage 28 = .ok (.ireturn, 1) := by decide +kernel
theorem dX5_stage_29 : decode cX5_stage 29 = .ok (.aload_n 3, 1) := by decide +kernel
theorem dX5_stage_30 : decode cX5_stage 30 = .ok (.getfield 107, 3) := by decide +kernel
theorem dX5_stage_33 : decode cX5_stage 33 = .ok (.ifCond .eq 7, 3) := by decide +kernel
theorem dX5_stage_36 : decode cX5_stage 36 = .ok (.iconst 1, 1) := by decide +kernel
theorem dX5_stage_37 : decode cX5_stage 37 = .ok (.goto 4, 3) := by decide +kernel
theorem dX5_stage_40 : decode cX5_stage 40 = .ok (.iconst 0, 1) := by decide +kernel
theorem dX5_stage_41 : decode cX5_stage 41 = .ok (.istore 4, 2) := by decide +kernel
theorem dX5_stage_43 : decode cX5_stage 43 = .ok (.aload_n 3, 1) := by decide +kernel
theorem dX5_stage_44 : decode cX5_stage 44 = .ok (.iload_n 2, 1) := by decide +kernel
theorem dX5_stage_45 : decode cX5_stage 45 = .ok (.iconst 1, 1) := by decide +kernel
theorem dX5_stage_46 : decode cX5_stage 46 = .ok (.if_icmp .ne 7, 3) := by decide +kernel
theorem dX5_stage_49 : decode cX5_stage 49 = .ok (.iconst 1, 1) := by decide +kernel
theorem dX5_stage_50 : decode cX5_stage 50 = .ok (.goto 4, 3) := by decide +kernel
theorem dX5_stage_53 : decode cX5_stage 53 = .ok (.iconst 0, 1) := by decide +kernel
theorem dX5_stage_54 : decode cX5_stage 54 = .ok (.putfield 107, 3) := by decide +kernel
theorem dX5_stage_57 : decode cX5_stage 57 = .ok (.aload_n 0, 1) := by decide +kernel
theorem dX5_stage_58 : decode cX5_stage 58 = .ok (.iload 4, 2) := by decide +kernel
theorem dX5_stage_60 : decode cX5_stage 60 = .ok (.invokevirtual 66, 3) := by decide +kernel
theorem dX5_stage_63 : decode cX5_stage 63 = .ok (.ireturn, 1) := by decide +kernel
theorem dX5_rest_0 : decode cX5_rest 0 = .ok (.aload_n 0, 1) := by decide +kernel
theorem dX5_rest_1 : decode cX5_rest 1 = .ok (.getfield 12, 3) := by decide +kernel
theorem dX5_rest_4 : decode cX5_rest 4 = .ok (.iload_n 1, 1) := by decide +kernel
theorem dX5_rest_5 : decode cX5_rest 5 = .ok (.invokevirtual 77, 3) := by decide +kernel
theorem dX5_rest_8 : decode cX5_rest 8 = .ok (.ifnull 7, 3) := by decide +kernel
theorem dX5_rest_11 : decode cX5_rest 11 = .ok (.iload_n 2, 1) := by decide +kernel
theorem dX5_rest_12 : decode cX5_rest 12 = .ok (.ifCond .ge 10, 3) := by decide +kernel
theorem dX5_rest_15 : decode cX5_rest 15 = .ok (.aload_n 0, 1) := by decide +kernel
theorem dX5_rest_16 : decode cX5_rest 16 = .ok (.ldc 65, 2) := by decide +kernel
theorem dX5_rest_18 : decode cX5_rest 18 = .ok (.invokevirtual 66, 3) := by decide +kernel
theorem dX5_rest_21 : decode cX5_rest 21 = .ok (.ireturn, 1) := by decide +kernel
theorem dX5_rest_22 : decode cX5_rest 22 = .ok (.aload_n 0, 1) := by decide +kernel
theorem dX5_rest_23 : decode cX5_rest 23 = .ok (.getfield 21, 3) := by decide +kernel
theorem dX5_rest_26 : decode cX5_rest 26 = .ok (.iload_n 1, 1) := by decide +kernel
theorem dX5_rest_27 : decode cX5_rest 27 = .ok (.aload_n 0, 1) := by decide +kernel
theorem dX5_rest_28 : decode cX5_rest 28 = .ok (.getfield 49, 3) := by decide +kernel
theorem dX5_rest_31 : decode cX5_rest 31 = .ok (.invokevirtual 111, 3) := by decide +kernel
theorem dX5_rest_34 : decode cX5_rest 34 = .ok (.aload_n 0, 1) := by decide +kernel
theorem dX5_rest_35 : decode cX5_rest 35 = .ok (.aload_n 0, 1) := by decide +kernel
theorem dX5_rest_36 : decode cX5_rest 36 = .ok (.getfield 21, 3) := by decide +kernel
theorem dX5_rest_39 : decode cX5_rest 39 = .ok (.iload_n 2, 1) := by decide +kernel
theorem dX5_rest_40 : decode cX5_rest 40 = .ok (.invokevirtual 115, 3) := by decide +kernel
theorem dX5_rest_43 : decode cX5_rest 43 = .ok (.invokevirtual 66, 3) := by decide +kernel
theorem dX5_rest_46 : decode cX5_rest 46 = .ok (.ireturn, 1) := by decide +kernel
theorem dX5_cue_0 : decode cX5_cue 0 = .ok (.aload_n 0, 1) := by decide +kernel
theorem dX5_cue_1 : decode cX5_cue 1 = .ok (.getfield 12, 3) := by decide +kernel
theorem dX5_cue_4 : decode cX5_cue 4 = .ok (.iload_n 1, 1) := by decide +kernel
theorem dX5_cue_5 : decode cX5_cue 5 = .ok (.invokevirtual 77, 3) := by decide +kernel
theorem dX5_cue_8 : decode cX5_cue 8 = .ok (.ifnull 14, 3) := by decide +kernel
theorem dX5_cue_11 : decode cX5_cue 11 = .ok (.aload_n 0, 1) := by decide +kernel
theorem dX5_cue_12 : decode cX5_cue 12 = .ok (.getfield 12, 3) := by decide +kernel
theorem dX5_cue_15 : decode cX5_cue 15 = .ok (.iload_n 2, 1) := by decide +kernel
theorem dX5_cue_16 : decode cX5_cue 16 = .ok (.invokevirtual 91, 3) := by decide +kernel
theorem dX5_cue_19 : decode cX5_cue 19 = .ok (.ifCond .ne 10, 3) := by decide +kernel
theorem dX5_cue_22 : decode cX5_cue 22 = .ok (.aload_n 0, 1) := by decide +kernel
theorem dX5_cue_23 : decode cX5_cue 23 = .ok (.ldc 65, 2) := by decide +kernel
theorem dX5_cue_25 : decode cX5_cue 25 = .ok (.invokevirtual 66, 3) := by decide +kernel
theorem dX5_cue_28 : decode cX5_cue 28 = .ok (.ireturn, 1) := by decide +kernel
theorem dX5_cue_29 : decode cX5_cue 29 = .ok (.aload_n 0, 1) := by decide +kernel
theorem dX5_cue_30 : decode cX5_cue 30 = .ok (.getfield 21, 3) := by decide +kernel
theorem dX5_cue_33 : decode cX5_cue 33 = .ok (.iload_n 1, 1) := by decide +kernel
theorem dX5_cue_34 : decode cX5_cue 34 = .ok (.aload_n 0, 1) := by decide +kernel
theorem dX5_cue_35 : decode cX5_cue 35 = .ok (.getfield 49, 3) := by decide +kernel
theorem dX5_cue_38 : decode cX5_cue 38 = .ok (.invokevirtual 111, 3) := by decide +kernel
theorem dX5_cue_41 : decode cX5_cue 41 = .ok (.aload_n 0, 1) := by decide +kernel
theorem dX5_cue_42 : decode cX5_cue 42 = .ok (.aload_n 0, 1) := by decide +kernel
theorem dX5_cue_43 : decode cX5_cue 43 = .ok (.getfield 21, 3) := by decide +kernel
theorem dX5_cue_46 : decode cX5_cue 46 = .ok (.aload_n 0, 1) := by decide +kernel
theorem dX5_cue_47 : decode cX5_cue 47 = .ok (.getfield 21, 3) := by decide +kernel
theorem dX5_cue_50 : decode cX5_cue 50 = .ok (.iload_n 2, 1) := by decide +kernel
theorem dX5_cue_51 : decode cX5_cue 51 = .ok (.invokevirtual 118, 3) := by decide +kernel
theorem dX5_cue_54 : decode cX5_cue 54 = .ok (.invokevirtual 121, 3) := by decide +kernel
theorem dX5_cue_57 : decode cX5_cue 57 = .ok (.invokevirtual 66, 3) := by decide +kernel
theorem dX5_cue_60 : decode cX5_cue 60 = .ok (.ireturn, 1) := by decide +kernel
theorem dX5_key_0 : decode cX5_key 0 = .ok (.iload_n 1, 1) := by decide +kernel
theorem dX5_key_1 : decode cX5_key 1 = .ok (.bipush (-7), 2) := by decide +kernel
theorem dX5_key_3 : decode cX5_key 3 = .ok (.bipush 7, 2) := by decide +kernel
theorem dX5_key_5 : decode cX5_key 5 = .ok (.invokestatic 61, 3) := by decide +kernel
theorem dX5_key_8 : decode cX5_key 8 = .ok (.ifCond .ne 10, 3) := by decide +kernel
theorem dX5_key_11 : decode cX5_key 11 = .ok (.aload_n 0, 1) := by decide +kernel
theorem dX5_key_12 : decode cX5_key 12 = .ok (.ldc 65, 2) := by decide +kernel
theorem dX5_key_14 : decode cX5_key 14 = .ok (.invokevirtual 66, 3) := by decide +kernel
theorem dX5_key_17 : decode cX5_key 17 = .ok (.ireturn, 1) := by decide +kernel
theorem dX5_key_18 : decode cX5_key 18 = .ok (.aload_n 0, 1) := by decide +kernel
theorem dX5_key_19 : decode cX5_key 19 = .ok (.getfield 45, 3) := by decide +kernel
theorem dX5_key_22 : decode cX5_key 22 = .ok (.istore_n 2, 1) := by decide +kernel
theorem dX5_key_23 : decode cX5_key 23 = .ok (.aload_n 0, 1) := by decide +kernel
theorem dX5_key_24 : decode cX5_key 24 = .ok (.iload_n 1, 1) := by decide +kernel
theorem dX5_key_25 : decode cX5_key 25 = .ok (.putfield 45, 3) := by decide +kernel
theorem dX5_key_28 : decode cX5_key 28 = .ok (.aload_n 0, 1) := by decide +kernel
theorem dX5_key_29 : decode cX5_key 29 = .ok (.iload_n 2, 1) := by decide +kernel
theorem dX5_key_30 : decode cX5_key 30 = .ok (.invokevirtual 66, 3) := by decide +kernel
theorem dX5_key_33 : decode cX5_key 33 = .ok (.ireturn, 1) := by decide +kernel
theorem dX5_written_0 : decode cX5_written 0 = .ok (.aload_n 0, 1) := by decide +kernel
theorem dX5_written_1 : decode cX5_written 1 = .ok (.getfield 12, 3) := by decide +kernel
theorem dX5_written_4 : decode cX5_written 4 = .ok (.iload_n 1, 1) := by decide +kernel
theorem dX5_written_5 : decode cX5_written 5 = .ok (.invokevirtual 77, 3) := by decide +kernel
theorem dX5_written_8 : decode cX5_written 8 = .ok (.astore_n 2, 1) := by decide +kernel
theorem dX5_written_9 : decode cX5_written 9 = .ok (.aload_n 2, 1) := by decide +kernel
theorem dX5_written_10 : decode cX5_written 10 = .ok (.ifnonnull 10, 3) := by decide +kernel
theorem dX5_written_13 : decode cX5_written 13 = .ok (.aload_n 0, 1) := by decide +kernel
theorem dX5_written_14 : decode cX5_written 14 = .ok (.ldc 65, 2) := by decide +kernel
theorem dX5_written_16 : decode cX5_written 16 = .ok (.invokevirtual 66, 3) := by decide +kernel
theorem dX5_written_19 : decode cX5_written 19 = .ok (.ireturn, 1) := by decide +kernel
theorem dX5_written_20 : decode cX5_written 20 = .ok (.aload_n 0, 1) := by decide +kernel
theorem dX5_written_21 : decode cX5_written 21 = .ok (.aload_n 0, 1) := by decide +kernel
theorem dX5_written_22 : decode cX5_written 22 = .ok (.getfield 45, 3) := by decide +kernel
theorem dX5_written_25 : decode cX5_written 25 = .ok (.bipush 7, 2) := by decide +kernel
theorem dX5_written_27 : decode cX5_written 27 = .ok (.aload_n 2, 1) := by decide +kernel
theorem dX5_written_28 : decode cX5_written 28 = .ok (.getfield 87, 3) := by decide +kernel
theorem dX5_written_31 : decode cX5_written 31 = .ok (.imul, 1) := by decide +kernel
theorem dX5_written_32 : decode cX5_written 32 = .ok (.iadd, 1) := by decide +kernel
theorem dX5_written_33 : decode cX5_written 33 = .ok (.bipush 6, 2) := by decide +kernel
theorem dX5_written_35 : decode cX5_written 35 = .ok (.iadd, 1) := by decide +kernel
theorem dX5_written_36 : decode cX5_written 36 = .ok (.bipush 12, 2) := by decide +kernel
theorem dX5_written_38 : decode cX5_written 38 = .ok (.invokestatic 124, 3) := by decide +kernel
theorem dX5_written_41 : decode cX5_written 41 = .ok (.bipush 6, 2) := by decide +kernel
theorem dX5_written_43 : decode cX5_written 43 = .ok (.isub, 1) := by decide +kernel
theorem dX5_written_44 : decode cX5_written 44 = .ok (.invokevirtual 66, 3) := by decide +kernel
theorem dX5_written_47 : decode cX5_written 47 = .ok (.ireturn, 1) := by decide +kernel
theorem dX5_due_0 : decode cX5_due 0 = .ok (.iload_n 1, 1) := by decide +kernel
theorem dX5_due_1 : decode cX5_due 1 = .ok (.iconst 1, 1) := by decide +kernel
theorem dX5_due_2 : decode cX5_due 2 = .ok (.bipush 20, 2) := by decide +kernel
theorem dX5_due_4 : decode cX5_due 4 = .ok (.invokestatic 61, 3) := by decide +kernel
theorem dX5_due_7 : decode cX5_due 7 = .ok (.ifCond .ne 10, 3) := by decide +kernel
theorem dX5_due_10 : decode cX5_due 10 = .ok (.aload_n 0, 1) := by decide +kernel
theorem dX5_due_11 : decode cX5_due 11 = .ok (.ldc 65, 2) := by decide +kernel
theorem dX5_due_13 : decode cX5_due 13 = .ok (.invokevirtual 66, 3) := by decide +kernel
theorem dX5_due_16 : decode cX5_due 16 = .ok (.ireturn, 1) := by decide +kernel
theorem dX5_due_17 : decode cX5_due 17 = .ok (.aload_n 0, 1) := by decide +kernel
theorem dX5_due_18 : decode cX5_due 18 = .ok (.getfield 49, 3) := by decide +kernel
theorem dX5_due_21 : decode cX5_due 21 = .ok (.istore_n 2, 1) := by decide +kernel
theorem dX5_due_22 : decode cX5_due 22 = .ok (.aload_n 0, 1) := by decide +kernel
theorem dX5_due_23 : decode cX5_due 23 = .ok (.iload_n 1, 1) := by decide +kernel
theorem dX5_due_24 : decode cX5_due 24 = .ok (.putfield 49, 3) := by decide +kernel
theorem dX5_due_27 : decode cX5_due 27 = .ok (.aload_n 0, 1) := by decide +kernel
theorem dX5_due_28 : decode cX5_due 28 = .ok (.iload_n 2, 1) := by decide +kernel
theorem dX5_due_29 : decode cX5_due 29 = .ok (.invokevirtual 66, 3) := by decide +kernel
theorem dX5_due_32 : decode cX5_due 32 = .ok (.ireturn, 1) := by decide +kernel
theorem dX5_paper_0 : decode cX5_paper 0 = .ok (.iload_n 1, 1) := by decide +kernel
theorem dX5_paper_1 : decode cX5_paper 1 = .ok (.bipush 21, 2) := by decide +kernel
theorem dX5_paper_3 : decode cX5_paper 3 = .ok (.bipush 60, 2) := by decide +kernel
theorem dX5_paper_5 : decode cX5_paper 5 = .ok (.invokestatic 61, 3) := by decide +kernel
theorem dX5_paper_8 : decode cX5_paper 8 = .ok (.ifCond .eq 13, 3) := by decide +kernel
theorem dX5_paper_11 : decode cX5_paper 11 = .ok (.iload_n 2, 1) := by decide +kernel
theorem dX5_paper_12 : decode cX5_paper 12 = .ok (.iconst 1, 1) := by decide +kernel
theorem dX5_paper_13 : decode cX5_paper 13 = .ok (.bipush 8, 2) := by decide +kernel
theorem dX5_paper_15 : decode cX5_paper 15 = .ok (.invokestatic 61, 3) := by decide +kernel
theorem dX5_paper_18 : decode cX5_paper 18 = .ok (.ifCond .ne 10, 3) := by decide +kernel
theorem dX5_paper_21 : decode cX5_paper 21 = .ok (.aload_n 0, 1) := by decide +kernel
theorem dX5_paper_22 : decode cX5_paper 22 = .ok (.ldc 65, 2) := by decide +kernel
theorem dX5_paper_24 : decode cX5_paper 24 = .ok (.invokevirtual 66, 3) := by decide +kernel
theorem dX5_paper_27 : decode cX5_paper 27 = .ok (.ireturn, 1) := by decide +kernel
theorem dX5_paper_28 : decode cX5_paper 28 = .ok (.aload_n 0, 1) := by decide +kernel
theorem dX5_paper_29 : decode cX5_paper 29 = .ok (.iload_n 1, 1) := by decide +kernel
theorem dX5_paper_30 : decode cX5_paper 30 = .ok (.putfield 52, 3) := by decide +kernel
theorem dX5_paper_33 : decode cX5_paper 33 = .ok (.aload_n 0, 1) := by decide +kernel
theorem dX5_paper_34 : decode cX5_paper 34 = .ok (.iload_n 2, 1) := by decide +kernel
theorem dX5_paper_35 : decode cX5_paper 35 = .ok (.putfield 55, 3) := by decide +kernel
theorem dX5_paper_38 : decode cX5_paper 38 = .ok (.aload_n 0, 1) := by decide +kernel
theorem dX5_paper_39 : decode cX5_paper 39 = .ok (.iconst 1, 1) := by decide +kernel
theorem dX5_paper_40 : decode cX5_paper 40 = .ok (.invokevirtual 66, 3) := by decide +kernel
theorem dX5_paper_43 : decode cX5_paper 43 = .ok (.ireturn, 1) := by decide +kernel
theorem dX5_need_0 : decode cX5_need 0 = .ok (.iload_n 1, 1) := by decide +kernel
theorem dX5_need_1 : decode cX5_need 1 = .ok (.iconst 0, 1) := by decide +kernel
theorem dX5_need_2 : decode cX5_need 2 = .ok (.bipush 60, 2) := by decide +kernel
theorem dX5_need_4 : decode cX5_need 4 = .ok (.invokestatic 61, 3) := by decide +kernel
theorem dX5_need_7 : decode cX5_need 7 = .ok (.ifCond .ne 10, 3) := by decide +kernel
theorem dX5_need_10 : decode cX5_need 10 = .ok (.aload_n 0, 1) := by decide +kernel
theorem dX5_need_11 : decode cX5_need 11 = .ok (.ldc 65, 2) := by decide +kernel
theorem dX5_need_13 : decode cX5_need 13 = .ok (.invokevirtual 66, 3) := by decide +kernel
theorem dX5_need_16 : decode cX5_need 16 = .ok (.ireturn, 1) := by decide +kernel
theorem dX5_need_17 : decode cX5_need 17 = .ok (.aload_n 0, 1) := by decide +kernel
theorem dX5_need_18 : decode cX5_need 18 = .ok (.getfield 58, 3) := by decide +kernel
theorem dX5_need_21 : decode cX5_need 21 = .ok (.istore_n 2, 1) := by decide +kernel
theorem dX5_need_22 : decode cX5_need 22 = .ok (.aload_n 0, 1) := by decide +kernel
theorem dX5_need_23 : decode cX5_need 23 = .ok (.iload_n 1, 1) := by decide +kernel
theorem dX5_need_24 : decode cX5_need 24 = .ok (.putfield 58, 3) := by decide +kernel
theorem dX5_need_27 : decode cX5_need 27 = .ok (.aload_n 0, 1) := by decide +kernel
theorem dX5_need_28 : decode cX5_need 28 = .ok (.iload_n 2, 1) := by decide +kernel
theorem dX5_need_29 : decode cX5_need 29 = .ok (.invokevirtual 66, 3) := by decide +kernel
theorem dX5_need_32 : decode cX5_need 32 = .ok (.ireturn, 1) := by decide +kernel
theorem dX5_pages_0 : decode cX5_pages 0 = .ok (.aload_n 0, 1) := by decide +kernel
theorem dX5_pages_1 : decode cX5_pages 1 = .ok (.getfield 12, 3) := by decide +kernel
theorem dX5_pages_4 : decode cX5_pages 4 = .ok (.iload_n 1, 1) := by decide +kernel
theorem dX5_pages_5 : decode cX5_pages 5 = .ok (.invokevirtual 77, 3) := by decide +kernel
theorem dX5_pages_8 : decode cX5_pages 8 = .ok (.astore_n 3, 1) := by decide +kernel
theorem dX5_pages_9 : decode cX5_pages 9 = .ok (.aload_n 3, 1) := by decide +kernel
theorem dX5_pages_10 : decode cX5_pages 10 = .ok (.ifnull 12, 3) := by decide +kernel
theorem dX5_pages_13 : decode cX5_pages 13 = .ok (.iload_n 2, 1) := by decide +kernel
theorem dX5_pages_14 : decode cX5_pages 14 = .ok (.iconst 0, 1) := by decide +kernel
theorem dX5_pages_15 : decode cX5_pages 15 = .ok (.iconst 1, 1) := by decide +kernel
theorem dX5_pages_16 : decode cX5_pages 16 = .ok (.invokestatic 61, 3) := by decide +kernel
theorem dX5_pages_19 : decode cX5_pages 19 = .ok (.ifCond .ne 10, 3) := by decide +kernel
theorem dX5_pages_22 : decode cX5_pages 22 = .ok (.aload_n 0, 1) := by decide +kernel
theorem dX5_pages_23 : decode cX5_pages 23 = .ok (.ldc 65, 2) := by decide +kernel
theorem dX5_pages_25 : decode cX5_pages 25 = .ok (.invokevirtual 66, 3) := by decide +kernel
theorem dX5_pages_28 : decode cX5_pages 28 = .ok (.ireturn, 1) := by decide +kernel
theorem dX5_pages_29 : decode cX5_pages 29 = .ok (.aload_n 0, 1) := by decide +kernel
theorem dX5_pages_30 : decode cX5_pages 30 = .ok (.iload_n 1, 1) := by decide +kernel
theorem dX5_pages_31 : decode cX5_pages 31 = .ok (.aload_n 3, 1) := by decide +kernel
theorem dX5_pages_32 : decode cX5_pages 32 = .ok (.invokevirtual 129, 3) := by decide +kernel
theorem dX5_pages_35 : decode cX5_pages 35 = .ok (.aload_n 0, 1) := by decide +kernel
theorem dX5_pages_36 : decode cX5_pages 36 = .ok (.getfield 30, 3) := by decide +kernel
theorem dX5_pages_39 : decode cX5_pages 39 = .ok (.invokevirtual 133, 3) := by decide +kernel
theorem dX5_pages_42 : decode cX5_pages 42 = .ok (.ifCond .ne 10, 3) := by decide +kernel
theorem dX5_pages_45 : decode cX5_pages 45 = .ok (.aload_n 0, 1) := by decide +kernel
theorem dX5_pages_46 : decode cX5_pages 46 = .ok (.ldc 137, 2) := by decide +kernel
theorem dX5_pages_48 : decode cX5_pages 48 = .ok (.invokevirtual 66, 3) := by decide +kernel
theorem dX5_pages_51 : decode cX5_pages 51 = .ok (.ireturn, 1) := by decide +kernel
theorem dX5_pages_52 : decode cX5_pages 52 = .ok (.aload_n 0, 1) := by decide +kernel
theorem dX5_pages_53 : decode cX5_pages 53 = .ok (.iload_n 2, 1) := by decide +kernel
theorem dX5_pages_54 : decode cX5_pages 54 = .ok (.ifCond .ne 13, 3) := by decide +kernel
theorem dX5_pages_57 : decode cX5_pages 57 = .ok (.aload_n 0, 1) := by decide +kernel
theorem dX5_pages_58 : decode cX5_pages 58 = .ok (.getfield 30, 3) := by decide +kernel
theorem dX5_pages_61 : decode cX5_pages 61 = .ok (.invokevirtual 133, 3) := by decide +kernel
theorem dX5_pages_64 : decode cX5_pages 64 = .ok (.goto 10, 3) := by decide +kernel
theorem dX5_pages_67 : decode cX5_pages 67 = .ok (.aload_n 0, 1) := by decide +kernel
theorem dX5_pages_68 : decode cX5_pages 68 = .ok (.getfield 30, 3) := by decide +kernel
theorem dX5_pages_71 : decode cX5_pages 71 = .ok (.invokevirtual 138, 3) := by decide +kernel
theorem dX5_pages_74 : decode cX5_pages 74 = .ok (.invokevirtual 66, 3) := by decide +kernel
theorem dX5_pages_77 : decode cX5_pages 77 = .ok (.ireturn, 1) := by decide +kernel
theorem dX5_page_0 : decode cX5_page 0 = .ok (.aload_n 0, 1) := by decide +kernel
theorem dX5_page_1 : decode cX5_page 1 = .ok (.getfield 12, 3) := by decide +kernel
theorem dX5_page_4 : decode cX5_page 4 = .ok (.iload_n 1, 1) := by decide +kernel
theorem dX5_page_5 : decode cX5_page 5 = .ok (.invokevirtual 77, 3) := by decide +kernel
theorem dX5_page_8 : decode cX5_page 8 = .ok (.astore_n 3, 1) := by decide +kernel
theorem dX5_page_9 : decode cX5_page 9 = .ok (.aload_n 3, 1) := by decide +kernel
theorem dX5_page_10 : decode cX5_page 10 = .ok (.ifnull 7, 3) := by decide +kernel
theorem dX5_page_13 : decode cX5_page 13 = .ok (.iload_n 2, 1) := by decide +kernel
theorem dX5_page_14 : decode cX5_page 14 = .ok (.ifCond .ge 10, 3) := by decide +kernel
theorem dX5_page_17 : decode cX5_page 17 = .ok (.aload_n 0, 1) := by decide +kernel
theorem dX5_page_18 : decode cX5_page 18 = .ok (.ldc 65, 2) := by decide +kernel
theorem dX5_page_20 : decode cX5_page 20 = .ok (.invokevirtual 66, 3) := by decide +kernel
theorem dX5_page_23 : decode cX5_page 23 = .ok (.ireturn, 1) := by decide +kernel
theorem dX5_page_24 : decode cX5_page 24 = .ok (.aload_n 0, 1) := by decide +kernel
theorem dX5_page_25 : decode cX5_page 25 = .ok (.iload_n 1, 1) := by decide +kernel
theorem dX5_page_26 : decode cX5_page 26 = .ok (.aload_n 3, 1) := by decide +kernel
theorem dX5_page_27 : decode cX5_page 27 = .ok (.invokevirtual 129, 3) := by decide +kernel
theorem dX5_page_30 : decode cX5_page 30 = .ok (.aload_n 0, 1) := by decide +kernel
theorem dX5_page_31 : decode cX5_page 31 = .ok (.aload_n 0, 1) := by decide +kernel
theorem dX5_page_32 : decode cX5_page 32 = .ok (.getfield 30, 3) := by decide +kernel
theorem dX5_page_35 : decode cX5_page 35 = .ok (.iload_n 2, 1) := by decide +kernel
theorem dX5_page_36 : decode cX5_page 36 = .ok (.invokevirtual 141, 3) := by decide +kernel
theorem dX5_page_39 : decode cX5_page 39 = .ok (.invokevirtual 66, 3) := by decide +kernel
theorem dX5_page_42 : decode cX5_page 42 = .ok (.ireturn, 1) := by decide +kernel
theorem dX5_free_0 : decode cX5_free 0 = .ok (.aload_n 0, 1) := by decide +kernel
theorem dX5_free_1 : decode cX5_free 1 = .ok (.getfield 12, 3) := by decide +kernel
theorem dX5_free_4 : decode cX5_free 4 = .ok (.iload_n 1, 1) := by decide +kernel
theorem dX5_free_5 : decode cX5_free 5 = .ok (.invokevirtual 77, 3) := by decide +kernel
theorem dX5_free_8 : decode cX5_free 8 = .ok (.astore_n 3, 1) := by decide +kernel
theorem dX5_free_9 : decode cX5_free 9 = .ok (.aload_n 3, 1) := by decide +kernel
theorem dX5_free_10 : decode cX5_free 10 = .ok (.ifnull 7, 3) := by decide +kernel
theorem dX5_free_13 : decode cX5_free 13 = .ok (.iload_n 2, 1) := by decide +kernel
theorem dX5_free_14 : decode cX5_free 14 = .ok (.ifCond .ge 10, 3) := by decide +kernel
theorem dX5_free_17 : decode cX5_free 17 = .ok (.aload_n 0, 1) := by decide +kernel
theorem dX5_free_18 : decode cX5_free 18 = .ok (.ldc 65, 2) := by decide +kernel
theorem dX5_free_20 : decode cX5_free 20 = .ok (.invokevirtual 66, 3) := by decide +kernel
theorem dX5_free_23 : decode cX5_free 23 = .ok (.ireturn, 1) := by decide +kernel
theorem dX5_free_24 : decode cX5_free 24 = .ok (.aload_n 0, 1) := by decide +kernel
theorem dX5_free_25 : decode cX5_free 25 = .ok (.iload_n 1, 1) := by decide +kernel
theorem dX5_free_26 : decode cX5_free 26 = .ok (.aload_n 3, 1) := by decide +kernel
theorem dX5_free_27 : decode cX5_free 27 = .ok (.invokevirtual 129, 3) := by decide +kernel
theorem dX5_free_30 : decode cX5_free 30 = .ok (.aload_n 0, 1) := by decide +kernel
theorem dX5_free_31 : decode cX5_free 31 = .ok (.aload_n 0, 1) := by decide +kernel
theorem dX5_free_32 : decode cX5_free 32 = .ok (.getfield 30, 3) := by decide +kernel
theorem dX5_free_35 : decode cX5_free 35 = .ok (.iload_n 2, 1) := by decide +kernel
theorem dX5_free_36 : decode cX5_free 36 = .ok (.invokevirtual 144, 3) := by decide +kernel
theorem dX5_free_39 : decode cX5_free 39 = .ok (.invokevirtual 66, 3) := by decide +kernel
theorem dX5_free_42 : decode cX5_free 42 = .ok (.ireturn, 1) := by decide +kernel
theorem dX5_systems_0 : decode cX5_systems 0 = .ok (.aload_n 0, 1) := by decide +kernel
theorem dX5_systems_1 : decode cX5_systems 1 = .ok (.getfield 12, 3) := by decide +kernel
theorem dX5_systems_4 : decode cX5_systems 4 = .ok (.iload_n 1, 1) := by decide +kernel
theorem dX5_systems_5 : decode cX5_systems 5 = .ok (.invokevirtual 77, 3) := by decide +kernel
theorem dX5_systems_8 : decode cX5_systems 8 = .ok (.astore_n 3, 1) := by decide +kernel
theorem dX5_systems_9 : decode cX5_systems 9 = .ok (.aload_n 3, 1) := by decide +kernel
theorem dX5_systems_10 : decode cX5_systems 10 = .ok (.ifnull 7, 3) := by decide +kernel
theorem dX5_systems_13 : decode cX5_systems 13 = .ok (.iload_n 2, 1) := by decide +kernel
theorem dX5_systems_14 : decode cX5_systems 14 = .ok (.ifCond .ge 10, 3) := by decide +kernel
theorem dX5_systems_17 : decode cX5_systems 17 = .ok (.aload_n 0, 1) := by decide +kernel
theorem dX5_systems_18 : decode cX5_systems 18 = .ok (.ldc 65, 2) := by decide +kernel
theorem dX5_systems_20 : decode cX5_systems 20 = .ok (.invokevirtual 66, 3) := by decide +kernel
theorem dX5_systems_23 : decode cX5_systems 23 = .ok (.ireturn, 1) := by decide +kernel
theorem dX5_systems_24 : decode cX5_systems 24 = .ok (.aload_n 0, 1) := by decide +kernel
theorem dX5_systems_25 : decode cX5_systems 25 = .ok (.iload_n 1, 1) := by decide +kernel
theorem dX5_systems_26 : decode cX5_systems 26 = .ok (.aload_n 3, 1) := by decide +kernel
theorem dX5_systems_27 : decode cX5_systems 27 = .ok (.invokevirtual 129, 3) := by decide +kernel
theorem dX5_systems_30 : decode cX5_systems 30 = .ok (.aload_n 0, 1) := by decide +kernel
theorem dX5_systems_31 : decode cX5_systems 31 = .ok (.aload_n 0, 1) := by decide +kernel
theorem dX5_systems_32 : decode cX5_systems 32 = .ok (.getfield 30, 3) := by decide +kernel
theorem dX5_systems_35 : decode cX5_systems 35 = .ok (.iload_n 2, 1) := by decide +kernel
theorem dX5_systems_36 : decode cX5_systems 36 = .ok (.invokevirtual 147, 3) := by decide +kernel
theorem dX5_systems_39 : decode cX5_systems 39 = .ok (.invokevirtual 66, 3) := by decide +kernel
theorem dX5_systems_42 : decode cX5_systems 42 = .ok (.ireturn, 1) := by decide +kernel
theorem dX5_lay_0 : decode cX5_lay 0 = .ok (.aload_n 0, 1) := by decide +kernel
theorem dX5_lay_1 : decode cX5_lay 1 = .ok (.getfield 12, 3) := by decide +kernel
theorem dX5_lay_4 : decode cX5_lay 4 = .ok (.iload_n 1, 1) := by decide +kernel
theorem dX5_lay_5 : decode cX5_lay 5 = .ok (.invokevirtual 77, 3) := by decide +kernel
theorem dX5_lay_8 : decode cX5_lay 8 = .ok (.astore_n 2, 1) := by decide +kernel
theorem dX5_lay_9 : decode cX5_lay 9 = .ok (.aload_n 2, 1) := by decide +kernel
theorem dX5_lay_10 : decode cX5_lay 10 = .ok (.ifnonnull 10, 3) := by decide +kernel
theorem dX5_lay_13 : decode cX5_lay 13 = .ok (.aload_n 0, 1) := by decide +kernel
theorem dX5_lay_14 : decode cX5_lay 14 = .ok (.ldc 65, 2) := by decide +kernel
theorem dX5_lay_16 : decode cX5_lay 16 = .ok (.invokevirtual 66, 3) := by decide +kernel
theorem dX5_lay_19 : decode cX5_lay 19 = .ok (.ireturn, 1) := by decide +kernel
theorem dX5_lay_20 : decode cX5_lay 20 = .ok (.aload_n 0, 1) := by decide +kernel
theorem dX5_lay_21 : decode cX5_lay 21 = .ok (.iload_n 1, 1) := by decide +kernel
theorem dX5_lay_22 : decode cX5_lay 22 = .ok (.aload_n 2, 1) := by decide +kernel
theorem dX5_lay_23 : decode cX5_lay 23 = .ok (.invokevirtual 129, 3) := by decide +kernel
theorem dX5_lay_26 : decode cX5_lay 26 = .ok (.aload_n 0, 1) := by decide +kernel
theorem dX5_lay_27 : decode cX5_lay 27 = .ok (.getfield 30, 3) := by decide +kernel
theorem dX5_lay_30 : decode cX5_lay 30 = .ok (.invokevirtual 133, 3) := by decide +kernel
theorem dX5_lay_33 : decode cX5_lay 33 = .ok (.ifCond .ne 10, 3) := by decide +kernel
theorem dX5_lay_36 : decode cX5_lay 36 = .ok (.aload_n 0, 1) := by decide +kernel
theorem dX5_lay_37 : decode cX5_lay 37 = .ok (.ldc 137, 2) := by decide +kernel
theorem dX5_lay_39 : decode cX5_lay 39 = .ok (.invokevirtual 66, 3) := by decide +kernel
theorem dX5_lay_42 : decode cX5_lay 42 = .ok (.ireturn, 1) := by decide +kernel
theorem dX5_lay_43 : decode cX5_lay 43 = .ok (.aload_n 2, 1) := by decide +kernel
theorem dX5_lay_44 : decode cX5_lay 44 = .ok (.aload_n 0, 1) := by decide +kernel
theorem dX5_lay_45 : decode cX5_lay 45 = .ok (.getfield 12, 3) := by decide +kernel
theorem dX5_lay_48 : decode cX5_lay 48 = .ok (.aload_n 0, 1) := by decide +kernel
theorem dX5_lay_49 : decode cX5_lay 49 = .ok (.getfield 30, 3) := by decide +kernel
theorem dX5_lay_52 : decode cX5_lay 52 = .ok (.invokevirtual 150, 3) := by decide +kernel
theorem dX5_lay_55 : decode cX5_lay 55 = .ok (.aload_n 0, 1) := by decide +kernel
theorem dX5_lay_56 : decode cX5_lay 56 = .ok (.aload_n 2, 1) := by decide +kernel
theorem dX5_lay_57 : decode cX5_lay 57 = .ok (.getfield 154, 3) := by decide +kernel
theorem dX5_lay_60 : decode cX5_lay 60 = .ok (.invokevirtual 66, 3) := by decide +kernel
theorem dX5_lay_63 : decode cX5_lay 63 = .ok (.ireturn, 1) := by decide +kernel
theorem dX5_stale_0 : decode cX5_stale 0 = .ok (.aload_n 0, 1) := by decide +kernel
theorem dX5_stale_1 : decode cX5_stale 1 = .ok (.getfield 12, 3) := by decide +kernel
theorem dX5_stale_4 : decode cX5_stale 4 = .ok (.iload_n 1, 1) := by decide +kernel
theorem dX5_stale_5 : decode cX5_stale 5 = .ok (.invokevirtual 77, 3) := by decide +kernel
theorem dX5_stale_8 : decode cX5_stale 8 = .ok (.astore_n 2, 1) := by decide +kernel
theorem dX5_stale_9 : decode cX5_stale 9 = .ok (.aload_n 2, 1) := by decide +kernel
theorem dX5_stale_10 : decode cX5_stale 10 = .ok (.ifnonnull 10, 3) := by decide +kernel
theorem dX5_stale_13 : decode cX5_stale 13 = .ok (.aload_n 0, 1) := by decide +kernel
theorem dX5_stale_14 : decode cX5_stale 14 = .ok (.ldc 65, 2) := by decide +kernel
theorem dX5_stale_16 : decode cX5_stale 16 = .ok (.invokevirtual 66, 3) := by decide +kernel
theorem dX5_stale_19 : decode cX5_stale 19 = .ok (.ireturn, 1) := by decide +kernel
theorem dX5_stale_20 : decode cX5_stale 20 = .ok (.aload_n 0, 1) := by decide +kernel
theorem dX5_stale_21 : decode cX5_stale 21 = .ok (.aload_n 2, 1) := by decide +kernel
theorem dX5_stale_22 : decode cX5_stale 22 = .ok (.getfield 154, 3) := by decide +kernel
theorem dX5_stale_25 : decode cX5_stale 25 = .ok (.ifCond .ne 8, 3) := by decide +kernel
theorem dX5_stale_28 : decode cX5_stale 28 = .ok (.ldc 137, 2) := by decide +kernel
theorem dX5_stale_30 : decode cX5_stale 30 = .ok (.goto 11, 3) := by decide +kernel
theorem dX5_stale_33 : decode cX5_stale 33 = .ok (.aload_n 2, 1) := by decide +kernel
theorem dX5_stale_34 : decode cX5_stale 34 = .ok (.aload_n 0, 1) := by decide +kernel
theorem dX5_stale_35 : decode cX5_stale 35 = .ok (.getfield 12, 3) := by decide +kernel
theorem dX5_stale_38 : decode cX5_stale 38 = .ok (.invokevirtual 157, 3) := by decide +kernel
theorem dX5_stale_41 : decode cX5_stale 41 = .ok (.invokevirtual 66, 3) := by decide +kernel
theorem dX5_stale_44 : decode cX5_stale 44 = .ok (.ireturn, 1) := by decide +kernel
theorem dX5_tell_0 : decode cX5_tell 0 = .ok (.aload_n 0, 1) := by decide +kernel
theorem dX5_tell_1 : decode cX5_tell 1 = .ok (.aload_n 0, 1) := by decide +kernel
theorem dX5_tell_2 : decode cX5_tell 2 = .ok (.getfield 37, 3) := by decide +kernel
theorem dX5_tell_5 : decode cX5_tell 5 = .ok (.iload_n 1, 1) := by decide +kernel
theorem dX5_tell_6 : decode cX5_tell 6 = .ok (.invokevirtual 161, 3) := by decide +kernel
theorem dX5_tell_9 : decode cX5_tell 9 = .ok (.invokevirtual 66, 3) := by decide +kernel
theorem dX5_tell_12 : decode cX5_tell 12 = .ok (.ireturn, 1) := by decide +kernel
theorem dX5_check_0 : decode cX5_check 0 = .ok (.aload_n 0, 1) := by decide +kernel
theorem dX5_check_1 : decode cX5_check 1 = .ok (.getfield 37, 3) := by decide +kernel
theorem dX5_check_4 : decode cX5_check 4 = .ok (.invokevirtual 164, 3) := by decide +kernel
theorem dX5_check_7 : decode cX5_check 7 = .ok (.istore_n 2, 1) := by decide +kernel
theorem dX5_check_8 : decode cX5_check 8 = .ok (.aload_n 0, 1) := by decide +kernel
theorem dX5_check_9 : decode cX5_check 9 = .ok (.getfield 12, 3) := by decide +kernel
theorem dX5_check_12 : decode cX5_check 12 = .ok (.iload_n 1, 1) := by decide +kernel
theorem dX5_check_13 : decode cX5_check 13 = .ok (.invokevirtual 77, 3) := by decide +kernel
theorem dX5_check_16 : decode cX5_check 16 = .ok (.ifnonnull 10, 3) := by decide +kernel
theorem dX5_check_19 : decode cX5_check 19 = .ok (.aload_n 0, 1) := by decide +kernel
theorem dX5_check_20 : decode cX5_check 20 = .ok (.ldc 65, 2) := by decide +kernel
theorem dX5_check_22 : decode cX5_check 22 = .ok (.invokevirtual 66, 3) := by decide +kernel
theorem dX5_check_25 : decode cX5_check 25 = .ok (.ireturn, 1) := by decide +kernel
theorem dX5_check_26 : decode cX5_check 26 = .ok (.aload_n 0, 1) := by decide +kernel
theorem dX5_check_27 : decode cX5_check 27 = .ok (.getfield 21, 3) := by decide +kernel
theorem dX5_check_30 : decode cX5_check 30 = .ok (.iload_n 1, 1) := by decide +kernel
theorem dX5_check_31 : decode cX5_check 31 = .ok (.aload_n 0, 1) := by decide +kernel
theorem dX5_check_32 : decode cX5_check 32 = .ok (.getfield 49, 3) := by decide +kernel
theorem dX5_check_35 : decode cX5_check 35 = .ok (.invokevirtual 111, 3) := by decide +kernel
theorem dX5_check_38 : decode cX5_check 38 = .ok (.aload_n 0, 1) := by decide +kernel
theorem dX5_check_39 : decode cX5_check 39 = .ok (.aload_n 0, 1) := by decide +kernel
theorem dX5_check_40 : decode cX5_check 40 = .ok (.getfield 37, 3) := by decide +kernel
theorem dX5_check_43 : decode cX5_check 43 = .ok (.iload_n 2, 1) := by decide +kernel
theorem dX5_check_44 : decode cX5_check 44 = .ok (.aload_n 0, 1) := by decide +kernel
theorem dX5_check_45 : decode cX5_check 45 = .ok (.getfield 21, 3) := by decide +kernel
theorem dX5_check_48 : decode cX5_check 48 = .ok (.invokevirtual 167, 3) := by decide +kernel
theorem dX5_check_51 : decode cX5_check 51 = .ok (.invokevirtual 66, 3) := by decide +kernel
theorem dX5_check_54 : decode cX5_check 54 = .ok (.ireturn, 1) := by decide +kernel
theorem dX5_count_0 : decode cX5_count 0 = .ok (.iload_n 1, 1) := by decide +kernel
theorem dX5_count_1 : decode cX5_count 1 = .ok (.tableswitch 111 0 5 #[39, 51, 63, 75, 87, 99], 39) := by decide +kernel
theorem dX5_count_40 : decode cX5_count 40 = .ok (.aload_n 0, 1) := by decide +kernel
theorem dX5_count_41 : decode cX5_count 41 = .ok (.aload_n 0, 1) := by decide +kernel
theorem dX5_count_42 : decode cX5_count 42 = .ok (.getfield 12, 3) := by decide +kernel
theorem dX5_count_45 : decode cX5_count 45 = .ok (.getfield 171, 3) := by decide +kernel
theorem dX5_count_48 : decode cX5_count 48 = .ok (.invokevirtual 66, 3) := by decide +kernel
theorem dX5_count_51 : decode cX5_count 51 = .ok (.ireturn, 1) := by decide +kernel
theorem dX5_count_52 : decode cX5_count 52 = .ok (.aload_n 0, 1) := by decide +kernel
theorem dX5_count_53 : decode cX5_count 53 = .ok (.aload_n 0, 1) := by decide +kernel
theorem dX5_count_54 : decode cX5_count 54 = .ok (.getfield 12, 3) := by decide +kernel
theorem dX5_count_57 : decode cX5_count 57 = .ok (.getfield 174, 3) := by decide +kernel
theorem dX5_count_60 : decode cX5_count 60 = .ok (.invokevirtual 66, 3) := by decide +kernel
theorem dX5_count_63 : decode cX5_count 63 = .ok (.ireturn, 1) := by decide +kernel
theorem dX5_count_64 : decode cX5_count 64 = .ok (.aload_n 0, 1) := by decide +kernel
theorem dX5_count_65 : decode cX5_count 65 = .ok (.aload_n 0, 1) := by decide +kernel
theorem dX5_count_66 : decode cX5_count 66 = .ok (.getfield 12, 3) := by decide +kernel
theorem dX5_count_69 : decode cX5_count 69 = .ok (.invokevirtual 177, 3) := by decide +kernel
theorem dX5_count_72 : decode cX5_count 72 = .ok (.invokevirtual 66, 3) := by decide +kernel
theorem dX5_count_75 : decode cX5_count 75 = .ok (.ireturn, 1) := by decide +kernel
theorem dX5_count_76 : decode cX5_count 76 = .ok (.aload_n 0, 1) := by decide +kernel
theorem dX5_count_77 : decode cX5_count 77 = .ok (.aload_n 0, 1) := by decide +kernel
theorem dX5_count_78 : decode cX5_count 78 = .ok (.getfield 12, 3) := by decide +kernel
theorem dX5_count_81 : decode cX5_count 81 = .ok (.invokevirtual 180, 3) := by decide +kernel
theorem dX5_count_84 : decode cX5_count 84 = .ok (.invokevirtual 66, 3) := by decide +kernel
theorem dX5_count_87 : decode cX5_count 87 = .ok (.ireturn, 1) := by decide +kernel
theorem dX5_count_88 : decode cX5_count 88 = .ok (.aload_n 0, 1) := by decide +kernel
theorem dX5_count_89 : decode cX5_count 89 = .ok (.aload_n 0, 1) := by decide +kernel
theorem dX5_count_90 : decode cX5_count 90 = .ok (.getfield 37, 3) := by decide +kernel
theorem dX5_count_93 : decode cX5_count 93 = .ok (.getfield 183, 3) := by decide +kernel
theorem dX5_count_96 : decode cX5_count 96 = .ok (.invokevirtual 66, 3) := by decide +kernel
theorem dX5_count_99 : decode cX5_count 99 = .ok (.ireturn, 1) := by decide +kernel
theorem dX5_count_100 : decode cX5_count 100 = .ok (.aload_n 0, 1) := by decide +kernel
theorem dX5_count_101 : decode cX5_count 101 = .ok (.aload_n 0, 1) := by decide +kernel
theorem dX5_count_102 : decode cX5_count 102 = .ok (.getfield 12, 3) := by decide +kernel
theorem dX5_count_105 : decode cX5_count 105 = .ok (.invokevirtual 186, 3) := by decide +kernel
theorem dX5_count_108 : decode cX5_count 108 = .ok (.invokevirtual 66, 3) := by decide +kernel
theorem dX5_count_111 : decode cX5_count 111 = .ok (.ireturn, 1) := by decide +kernel
theorem dX5_count_112 : decode cX5_count 112 = .ok (.aload_n 0, 1) := by decide +kernel
theorem dX5_count_113 : decode cX5_count 113 = .ok (.ldc 65, 2) := by decide +kernel
theorem dX5_count_115 : decode cX5_count 115 = .ok (.invokevirtual 66, 3) := by decide +kernel
theorem dX5_count_118 : decode cX5_count 118 = .ok (.ireturn, 1) := by decide +kernel
theorem dX5_found_0 : decode cX5_found 0 = .ok (.iload_n 1, 1) := by decide +kernel
theorem dX5_found_1 : decode cX5_found 1 = .ok (.iconst 1, 1) := by decide +kernel
theorem dX5_found_2 : decode cX5_found 2 = .ok (.iconst 5, 1) := by decide +kernel
theorem dX5_found_3 : decode cX5_found 3 = .ok (.invokestatic 61, 3) := by decide +kernel
theorem dX5_found_6 : decode cX5_found 6 = .ok (.ifCond .ne 10, 3) := by decide +kernel
theorem dX5_found_9 : decode cX5_found 9 = .ok (.aload_n 0, 1) := by decide +kernel
theorem dX5_found_10 : decode cX5_found 10 = .ok (.ldc 65, 2) := by decide +kernel
theorem dX5_found_12 : decode cX5_found 12 = .ok (.invokevirtual 66, 3) := by decide +kernel
theorem dX5_found_15 : decode cX5_found 15 = .ok (.ireturn, 1) := by decide +kernel
theorem dX5_found_16 : decode cX5_found 16 = .ok (.aload_n 0, 1) := by decide +kernel
theorem dX5_found_17 : decode cX5_found 17 = .ok (.getfield 41, 3) := by decide +kernel
theorem dX5_found_20 : decode cX5_found 20 = .ok (.iload_n 1, 1) := by decide +kernel
theorem dX5_found_21 : decode cX5_found 21 = .ok (.iaload, 1) := by decide +kernel
theorem dX5_found_22 : decode cX5_found 22 = .ok (.ireturn, 1) := by decide +kernel
theorem dX5_within_0 : decode cX5_within 0 = .ok (.iload_n 1, 1) := by decide +kernel
theorem dX5_within_1 : decode cX5_within 1 = .ok (.iload_n 0, 1) := by decide +kernel
theorem dX5_within_2 : decode cX5_within 2 = .ok (.if_icmp .gt 12, 3) := by decide +kernel
theorem dX5_within_5 : decode cX5_within 5 = .ok (.iload_n 0, 1) := by decide +kernel
theorem dX5_within_6 : decode cX5_within 6 = .ok (.iload_n 2, 1) := by decide +kernel
theorem dX5_within_7 : decode cX5_within 7 = .ok (.if_icmp .gt 7, 3) := by decide +kernel
theorem dX5_within_10 : decode cX5_within 10 = .ok (.iconst 1, 1) := by decide +kernel
theorem dX5_within_11 : decode cX5_within 11 = .ok (.goto 4, 3) := by decide +kernel
theorem dX5_within_14 : decode cX5_within 14 = .ok (.iconst 0, 1) := by decide +kernel
theorem dX5_within_15 : decode cX5_within 15 = .ok (.ireturn, 1) := by decide +kernel
theorem dX5_answer_0 : decode cX5_answer 0 = .ok (.iload_n 1, 1) := by decide +kernel
theorem dX5_answer_1 : decode cX5_answer 1 = .ok (.ldc 90, 2) := by decide +kernel
theorem dX5_answer_3 : decode cX5_answer 3 = .ok (.ldc 65, 2) := by decide +kernel
theorem dX5_answer_5 : decode cX5_answer 5 = .ok (.invokestatic 61, 3) := by decide +kernel
theorem dX5_answer_8 : decode cX5_answer 8 = .ok (.ifCond .eq 16, 3) := by decide +kernel
theorem dX5_answer_11 : decode cX5_answer 11 = .ok (.aload_n 0, 1) := by decide +kernel
theorem dX5_answer_12 : decode cX5_answer 12 = .ok (.getfield 41, 3) := by decide +kernel
theorem dX5_answer_15 : decode cX5_answer 15 = .ok (.ldc 189, 2) := by decide +kernel
theorem dX5_answer_17 : decode cX5_answer 17 = .ok (.iload_n 1, 1) := by decide +kernel
theorem dX5_answer_18 : decode cX5_answer 18 = .ok (.isub, 1) := by decide +kernel
theorem dX5_answer_19 : decode cX5_answer 19 = .ok (.dup2, 1) := by decide +kernel
theorem dX5_answer_20 : decode cX5_answer 20 = .ok (.iaload, 1) := by decide +kernel
theorem dX5_answer_21 : decode cX5_answer 21 = .ok (.iconst 1, 1) := by decide +kernel
theorem dX5_answer_22 : decode cX5_answer 22 = .ok (.iadd, 1) := by decide +kernel
theorem dX5_answer_23 : decode cX5_answer 23 = .ok (.iastore, 1) := by decide +kernel
theorem dX5_answer_24 : decode cX5_answer 24 = .ok (.iload_n 1, 1) := by decide +kernel
theorem dX5_answer_25 : decode cX5_answer 25 = .ok (.ireturn, 1) := by decide +kernel
theorem dX5_plan_0 : decode cX5_plan 0 = .ok (.aload_n 0, 1) := by decide +kernel
theorem dX5_plan_1 : decode cX5_plan 1 = .ok (.getfield 21, 3) := by decide +kernel
theorem dX5_plan_4 : decode cX5_plan 4 = .ok (.iload_n 1, 1) := by decide +kernel
theorem dX5_plan_5 : decode cX5_plan 5 = .ok (.aload_n 0, 1) := by decide +kernel
theorem dX5_plan_6 : decode cX5_plan 6 = .ok (.getfield 49, 3) := by decide +kernel
theorem dX5_plan_9 : decode cX5_plan 9 = .ok (.invokevirtual 111, 3) := by decide +kernel
theorem dX5_plan_12 : decode cX5_plan 12 = .ok (.aload_n 0, 1) := by decide +kernel
theorem dX5_plan_13 : decode cX5_plan 13 = .ok (.getfield 30, 3) := by decide +kernel
theorem dX5_plan_16 : decode cX5_plan 16 = .ok (.aload_n 0, 1) := by decide +kernel
theorem dX5_plan_17 : decode cX5_plan 17 = .ok (.getfield 52, 3) := by decide +kernel
theorem dX5_plan_20 : decode cX5_plan 20 = .ok (.aload_n 0, 1) := by decide +kernel
theorem dX5_plan_21 : decode cX5_plan 21 = .ok (.getfield 55, 3) := by decide +kernel
theorem dX5_plan_24 : decode cX5_plan 24 = .ok (.aload_n 2, 1) := by decide +kernel
theorem dX5_plan_25 : decode cX5_plan 25 = .ok (.aload_n 0, 1) := by decide +kernel
theorem dX5_plan_26 : decode cX5_plan 26 = .ok (.getfield 58, 3) := by decide +kernel
theorem dX5_plan_29 : decode cX5_plan 29 = .ok (.invokevirtual 190, 3) := by decide +kernel
theorem dX5_plan_32 : decode cX5_plan 32 = .ok (.invokevirtual 193, 3) := by decide +kernel
theorem dX5_plan_35 : decode cX5_plan 35 = .ok (.return_, 1) := by decide +kernel
theorem dX6_init_0 : decode cX6_init 0 = .ok (.aload_n 0, 1) := by decide +kernel
theorem dX6_init_1 : decode cX6_init 1 = .ok (.invokespecial 1, 3) := by decide +kernel
theorem dX6_init_4 : decode cX6_init 4 = .ok (.aload_n 0, 1) := by decide +kernel
theorem dX6_init_5 : decode cX6_init 5 = .ok (.bipush 8, 2) := by decide +kernel
theorem dX6_init_7 : decode cX6_init 7 = .ok (.putfield 7, 3) := by decide +kernel
theorem dX6_init_10 : decode cX6_init 10 = .ok (.aload_n 0, 1) := by decide +kernel
theorem dX6_init_11 : decode cX6_init 11 = .ok (.bipush 40, 2) := by decide +kernel
theorem dX6_init_13 : decode cX6_init 13 = .ok (.putfield 13, 3) := by decide +kernel
theorem dX6_init_16 : decode cX6_init 16 = .ok (.aload_n 0, 1) := by decide +kernel
theorem dX6_init_17 : decode cX6_init 17 = .ok (.iconst 4, 1) := by decide +kernel
theorem dX6_init_18 : decode cX6_init 18 = .ok (.putfield 16, 3) := by decide +kernel
theorem dX6_init_21 : decode cX6_init 21 = .ok (.aload_n 0, 1) := by decide +kernel
theorem dX6_init_22 : decode cX6_init 22 = .ok (.iconst 5, 1) := by decide +kernel
theorem dX6_init_23 : decode cX6_init 23 = .ok (.putfield 19, 3) := by decide +kernel
theorem dX6_init_26 : decode cX6_init 26 = .ok (.aload_n 0, 1) := by decide +kernel
theorem dX6_init_27 : decode cX6_init 27 = .ok (.bipush 40, 2) := by decide +kernel
theorem dX6_init_29 : decode cX6_init 29 = .ok (.newarray .int, 2) := by decide +kernel
theorem dX6_init_31 : decode cX6_init 31 = .ok (.putfield 22, 3) := by decide +kernel
theorem dX6_init_34 : decode cX6_init 34 = .ok (.aload_n 0, 1) := by decide +kernel
theorem dX6_init_35 : decode cX6_init 35 = .ok (.bipush 40, 2) := by decide +kernel
theorem dX6_init_37 : decode cX6_init 37 = .ok (.newarray .int, 2) := by decide +kernel
theorem dX6_init_39 : decode cX6_init 39 = .ok (.putfield 26, 3) := by decide +kernel
theorem dX6_init_42 : decode cX6_init 42 = .ok (.aload_n 0, 1) := by decide +kernel
theorem dX6_init_43 : decode cX6_init 43 = .ok (.bipush 6, 2) := by decide +kernel
theorem dX6_init_45 : decode cX6_init 45 = .ok (.newarray .int, 2) := by decide +kernel
theorem dX6_init_47 : decode cX6_init 47 = .ok (.putfield 29, 3) := by decide +kernel
theorem dX6_init_50 : decode cX6_init 50 = .ok (.aload_n 0, 1) := by decide +kernel
theorem dX6_init_51 : decode cX6_init 51 = .ok (.bipush 6, 2) := by decide +kernel
theorem dX6_init_53 : decode cX6_init 53 = .ok (.newarray .int, 2) := by decide +kernel
theorem dX6_init_55 : decode cX6_init 55 = .ok (.putfield 32, 3) := by decide +kernel
theorem dX6_init_58 : decode cX6_init 58 = .ok (.aload_n 0, 1) := by decide +kernel
theorem dX6_init_59 : decode cX6_init 59 = .ok (.bipush 6, 2) := by decide +kernel
theorem dX6_init_61 : decode cX6_init 61 = .ok (.newarray .int, 2) := by decide +kernel
theorem dX6_init_63 : decode cX6_init 63 = .ok (.putfield 35, 3) := by decide +kernel
theorem dX6_init_66 : decode cX6_init 66 = .ok (.aload_n 0, 1) := by decide +kernel
theorem dX6_init_67 : decode cX6_init 67 = .ok (.sipush 240, 3) := by decide +kernel
theorem dX6_init_70 : decode cX6_init 70 = .ok (.newarray .int, 2) := by decide +kernel
theorem dX6_init_72 : decode cX6_init 72 = .ok (.putfield 38, 3) := by decide +kernel
theorem dX6_init_75 : decode cX6_init 75 = .ok (.aload_n 0, 1) := by decide +kernel
theorem dX6_init_76 : decode cX6_init 76 = .ok (.sipush 240, 3) := by decide +kernel
theorem dX6_init_79 : decode cX6_init 79 = .ok (.newarray .int, 2) := by decide +kernel
theorem dX6_init_81 : decode cX6_init 81 = .ok (.putfield 41, 3) := by decide +kernel
theorem dX6_init_84 : decode cX6_init 84 = .ok (.aload_n 0, 1) := by decide +kernel
theorem dX6_init_85 : decode cX6_init 85 = .ok (.bipush 40, 2) := by decide +kernel
theorem dX6_init_87 : decode cX6_init 87 = .ok (.newarray .int, 2) := by decide +kernel
theorem dX6_init_89 : decode cX6_init 89 = .ok (.putfield 44, 3) := by decide +kernel
theorem dX6_init_92 : decode cX6_init 92 = .ok (.aload_n 0, 1) := by decide +kernel
theorem dX6_init_93 : decode cX6_init 93 = .ok (.bipush 6, 2) := by decide +kernel
theorem dX6_init_95 : decode cX6_init 95 = .ok (.newarray .int, 2) := by decide +kernel
theorem dX6_init_97 : decode cX6_init 97 = .ok (.putfield 47, 3) := by decide +kernel
theorem dX6_init_100 : decode cX6_init 100 = .ok (.aload_n 0, 1) := by decide +kernel
theorem dX6_init_101 : decode cX6_init 101 = .ok (.bipush 40, 2) := by decide +kernel
theorem dX6_init_103 : decode cX6_init 103 = .ok (.newarray .int, 2) := by decide +kernel
theorem dX6_init_105 : decode cX6_init 105 = .ok (.putfield 50, 3) := by decide +kernel
theorem dX6_init_108 : decode cX6_init 108 = .ok (.aload_n 0, 1) := by decide +kernel
theorem dX6_init_109 : decode cX6_init 109 = .ok (.bipush 41, 2) := by decide +kernel
theorem dX6_init_111 : decode cX6_init 111 = .ok (.newarray .int, 2) := by decide +kernel
theorem dX6_init_113 : decode cX6_init 113 = .ok (.putfield 53, 3) := by decide +kernel
theorem dX6_init_116 : decode cX6_init 116 = .ok (.aload_n 0, 1) := by decide +kernel
theorem dX6_init_117 : decode cX6_init 117 = .ok (.bipush 41, 2) := by decide +kernel
theorem dX6_init_119 : decode cX6_init 119 = .ok (.newarray .int, 2) := by decide +kernel
theorem dX6_init_121 : decode cX6_init 121 = .ok (.putfield 56, 3) := by decide +kernel
theorem dX6_init_124 : decode cX6_init 124 = .ok (.aload_n 0, 1) := by decide +kernel
theorem dX6_init_125 : decode cX6_init 125 = .ok (.bipush 41, 2) := by decide +kernel
theorem dX6_init_127 : decode cX6_init 127 = .ok (.newarray .int, 2) := by decide +kernel
theorem dX6_init_129 : decode cX6_init 129 = .ok (.putfield 59, 3) := by decide +kernel
theorem dX6_init_132 : decode cX6_init 132 = .ok (.aload_n 0, 1) := by decide +kernel
theorem dX6_init_133 : decode cX6_init 133 = .ok (.bipush 6, 2) := by decide +kernel
theorem dX6_init_135 : decode cX6_init 135 = .ok (.newarray .int, 2) := by decide +kernel
theorem dX6_init_137 : decode cX6_init 137 = .ok (.putfield 62, 3) := by decide +kernel
theorem dX6_init_140 : decode cX6_init 140 = .ok (.aload_n 0, 1) := by decide +kernel
theorem dX6_init_141 : decode cX6_init 141 = .ok (.sipush 240, 3) := by decide +kernel
theorem dX6_init_144 : decode cX6_init 144 = .ok (.newarray .int, 2) := by decide +kernel
theorem dX6_init_146 : decode cX6_init 146 = .ok (.putfield 65, 3) := by decide +kernel
theorem dX6_init_149 : decode cX6_init 149 = .ok (.aload_n 0, 1) := by decide +kernel
theorem dX6_init_150 : decode cX6_init 150 = .ok (.sipush 240, 3) := by decide +kernel
theorem dX6_init_153 : decode cX6_init 153 = .ok (.newarray .int, 2) := by decide +kernel
theorem dX6_init_155 : decode cX6_init 155 = .ok (.putfield 68, 3) := by decide +kernel
theorem dX6_init_158 : decode cX6_init 158 = .ok (.aload_n 0, 1) := by decide +kernel
theorem dX6_init_159 : decode cX6_init 159 = .ok (.sipush 240, 3) := by decide +kernel
theorem dX6_init_162 : decode cX6_init 162 = .ok (.newarray .int, 2) := by decide +kernel
theorem dX6_init_164 : decode cX6_init 164 = .ok (.putfield 71, 3) := by decide +kernel
theorem dX6_init_167 : decode cX6_init 167 = .ok (.aload_n 0, 1) := by decide +kernel
theorem dX6_init_168 : decode cX6_init 168 = .ok (.sipush 240, 3) := by decide +kernel
theorem dX6_init_171 : decode cX6_init 171 = .ok (.newarray .int, 2) := by decide +kernel
theorem dX6_init_173 : decode cX6_init 173 = .ok (.putfield 74, 3) := by decide +kernel
theorem dX6_init_176 : decode cX6_init 176 = .ok (.aload_n 0, 1) := by decide +kernel
theorem dX6_init_177 : decode cX6_init 177 = .ok (.bipush 40, 2) := by decide +kernel
theorem dX6_init_179 : decode cX6_init 179 = .ok (.newarray .boolean, 2) := by decide +kernel
theorem dX6_init_181 : decode cX6_init 181 = .ok (.putfield 77, 3) := by decide +kernel
theorem dX6_init_184 : decode cX6_init 184 = .ok (.return_, 1) := by decide +kernel
theorem dX6_in_0 : decode cX6_in 0 = .ok (.iload_n 0, 1) := by decide +kernel
theorem dX6_in_1 : decode cX6_in 1 = .ok (.iload_n 1, 1) := by decide +kernel
theorem dX6_in_2 : decode cX6_in 2 = .ok (.if_icmp .lt 12, 3) := by decide +kernel
theorem dX6_in_5 : decode cX6_in 5 = .ok (.iload_n 0, 1) := by decide +kernel
theorem dX6_in_6 : decode cX6_in 6 = .ok (.iload_n 2, 1) := by decide +kernel
theorem dX6_in_7 : decode cX6_in 7 = .ok (.if_icmp .gt 7, 3) := by decide +kernel
theorem dX6_in_10 : decode cX6_in 10 = .ok (.iconst 1, 1) := by decide +kernel
theorem dX6_in_11 : decode cX6_in 11 = .ok (.goto 4, 3) := by decide +kernel
theorem dX6_in_14 : decode cX6_in 14 = .ok (.iconst 0, 1) := by decide +kernel
theorem dX6_in_15 : decode cX6_in 15 = .ok (.ireturn, 1) := by decide +kernel
theorem dX6_finds_0 : decode cX6_finds 0 = .ok (.aload_n 0, 1) := by decide +kernel
theorem dX6_finds_1 : decode cX6_finds 1 = .ok (.getfield 47, 3) := by decide +kernel
theorem dX6_finds_4 : decode cX6_finds 4 = .ok (.iload_n 1, 1) := by decide +kernel
theorem dX6_finds_5 : decode cX6_finds 5 = .ok (.dup2, 1) := by decide +kernel
theorem dX6_finds_6 : decode cX6_finds 6 = .ok (.iaload, 1) := by decide +kernel
theorem dX6_finds_7 : decode cX6_finds 7 = .ok (.iconst 1, 1) := by decide +kernel
theorem dX6_finds_8 : decode cX6_finds 8 = .ok (.iadd, 1) := by decide +kernel
theorem dX6_finds_9 : decode cX6_finds 9 = .ok (.iastore, 1) := by decide +kernel
theorem dX6_finds_10 : decode cX6_finds 10 = .ok (.ldc 81, 2) := by decide +kernel
theorem dX6_finds_12 : decode cX6_finds 12 = .ok (.iload_n 1, 1) := by decide +kernel
theorem dX6_finds_13 : decode cX6_finds 13 = .ok (.isub, 1) := by decide +kernel
theorem dX6_finds_14 : decode cX6_finds 14 = .ok (.ireturn, 1) := by decide +kernel
theorem dX6_isBar_0 : decode cX6_isBar 0 = .ok (.iload_n 1, 1) := by decide +kernel
theorem dX6_isBar_1 : decode cX6_isBar 1 = .ok (.iconst 0, 1) := by decide +kernel
theorem dX6_isBar_2 : decode cX6_isBar 2 = .ok (.aload_n 0, 1) := by decide +kernel
theorem dX6_isBar_3 : decode cX6_isBar 3 = .ok (.getfield 82, 3) := by decide +kernel
theorem dX6_isBar_6 : decode cX6_isBar 6 = .ok (.iconst 1, 1) := by decide +kernel
theorem dX6_isBar_7 : decode cX6_isBar 7 = .ok (.isub, 1) := by decide +kernel
theorem dX6_isBar_8 : decode cX6_isBar 8 = .ok (.invokestatic 85, 3) := by decide +kernel
theorem dX6_isBar_11 : decode cX6_isBar 11 = .ok (.ireturn, 1) := by decide +kernel
theorem dX6_isVoice_0 : decode cX6_isVoice 0 = .ok (.iload_n 1, 1) := by decide +kernel
theorem dX6_isVoice_1 : decode cX6_isVoice 1 = .ok (.iconst 0, 1) := by decide +kernel
theorem dX6_isVoice_2 : decode cX6_isVoice 2 = .ok (.aload_n 0, 1) := by decide +kernel
theorem dX6_isVoice_3 : decode cX6_isVoice 3 = .ok (.getfield 89, 3) := by decide +kernel
theorem dX6_isVoice_6 : decode cX6_isVoice 6 = .ok (.iconst 1, 1) := by decide +kernel
theorem dX6_isVoice_7 : decode cX6_isVoice 7 = .ok (.isub, 1) := by decide +kernel
theorem dX6_isVoice_8 : decode cX6_isVoice 8 = .ok (.invokestatic 85, 3) := by decide +kernel
theorem dX6_isVoice_11 : decode cX6_isVoice 11 = .ok (.ireturn, 1) := by decide +kernel
theorem dX6_isCut_0 : decode cX6_isCut 0 = .ok (.aload_n 0, 1) := by decide +kernel
theorem dX6_isCut_1 : decode cX6_isCut 1 = .ok (.getfield 26, 3) := by decide +kernel
theorem dX6_isCut_4 : decode cX6_isCut 4 = .ok (.iload_n 1, 1) := by decide +kernel
theorem dX6_isCut_5 : decode cX6_isCut 5 = .ok (.iaload, 1) := by decide +kernel
theorem dX6_isCut_6 : decode cX6_isCut 6 = .ok (.iconst 3, 1) := by decide +kernel
theorem dX6_isCut_7 : decode cX6_isCut 7 = .ok (.if_icmp .le 7, 3) := by decide +kernel
theorem dX6_isCut_10 : decode cX6_isCut 10 = .ok (.iconst 1, 1) := by decide +kernel
theorem dX6_isCut_11 : decode cX6_isCut 11 = .ok (.goto 4, 3) := by decide +kernel
theorem dX6_isCut_14 : decode cX6_isCut 14 = .ok (.iconst 0, 1) := by decide +kernel
theorem dX6_isCut_15 : decode cX6_isCut 15 = .ok (.ireturn, 1) := by decide +kernel
theorem dX6_bar_0 : decode cX6_bar 0 = .ok (.iload_n 1, 1) := by decide +kernel
theorem dX6_bar_1 : decode cX6_bar 1 = .ok (.iconst 1, 1) := by decide +kernel
theorem dX6_bar_2 : decode cX6_bar 2 = .ok (.bipush 60, 2) := by decide +kernel
theorem dX6_bar_4 : decode cX6_bar 4 = .ok (.invokestatic 85, 3) := by decide +kernel
theorem dX6_bar_7 : decode cX6_bar 7 = .ok (.ifCond .ne 9, 3) := by decide +kernel
theorem dX6_bar_10 : decode cX6_bar 10 = .ok (.aload_n 0, 1) := by decide +kernel
theorem dX6_bar_11 : decode cX6_bar 11 = .ok (.iconst 1, 1) := by decide +kernel
theorem dX6_bar_12 : decode cX6_bar 12 = .ok (.invokevirtual 92, 3) := by decide +kernel
theorem dX6_bar_15 : decode cX6_bar 15 = .ok (.ireturn, 1) := by decide +kernel
theorem dX6_bar_16 : decode cX6_bar 16 = .ok (.aload_n 0, 1) := by decide +kernel
