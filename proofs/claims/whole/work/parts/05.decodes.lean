theorem dX6_bar_17 : decode cX6_bar 17 = .ok (.getfield 82, 3) := by decide +kernel
theorem dX6_bar_20 : decode cX6_bar 20 = .ok (.bipush 40, 2) := by decide +kernel
theorem dX6_bar_22 : decode cX6_bar 22 = .ok (.if_icmp .ne 9, 3) := by decide +kernel
theorem dX6_bar_25 : decode cX6_bar 25 = .ok (.aload_n 0, 1) := by decide +kernel
theorem dX6_bar_26 : decode cX6_bar 26 = .ok (.iconst 4, 1) := by decide +kernel
theorem dX6_bar_27 : decode cX6_bar 27 = .ok (.invokevirtual 92, 3) := by decide +kernel
theorem dX6_bar_30 : decode cX6_bar 30 = .ok (.ireturn, 1) := by decide +kernel
theorem dX6_bar_31 : decode cX6_bar 31 = .ok (.aload_n 0, 1) := by decide +kernel
theorem dX6_bar_32 : decode cX6_bar 32 = .ok (.getfield 22, 3) := by decide +kernel
theorem dX6_bar_35 : decode cX6_bar 35 = .ok (.aload_n 0, 1) := by decide +kernel
theorem dX6_bar_36 : decode cX6_bar 36 = .ok (.getfield 82, 3) := by decide +kernel
theorem dX6_bar_39 : decode cX6_bar 39 = .ok (.iload_n 1, 1) := by decide +kernel
theorem dX6_bar_40 : decode cX6_bar 40 = .ok (.iastore, 1) := by decide +kernel
theorem dX6_bar_41 : decode cX6_bar 41 = .ok (.aload_n 0, 1) := by decide +kernel
theorem dX6_bar_42 : decode cX6_bar 42 = .ok (.getfield 26, 3) := by decide +kernel
theorem dX6_bar_45 : decode cX6_bar 45 = .ok (.aload_n 0, 1) := by decide +kernel
theorem dX6_bar_46 : decode cX6_bar 46 = .ok (.getfield 82, 3) := by decide +kernel
theorem dX6_bar_49 : decode cX6_bar 49 = .ok (.iconst 0, 1) := by decide +kernel
theorem dX6_bar_50 : decode cX6_bar 50 = .ok (.iastore, 1) := by decide +kernel
theorem dX6_bar_51 : decode cX6_bar 51 = .ok (.aload_n 0, 1) := by decide +kernel
theorem dX6_bar_52 : decode cX6_bar 52 = .ok (.dup, 1) := by decide +kernel
theorem dX6_bar_53 : decode cX6_bar 53 = .ok (.getfield 82, 3) := by decide +kernel
theorem dX6_bar_56 : decode cX6_bar 56 = .ok (.iconst 1, 1) := by decide +kernel
theorem dX6_bar_57 : decode cX6_bar 57 = .ok (.iadd, 1) := by decide +kernel
theorem dX6_bar_58 : decode cX6_bar 58 = .ok (.putfield 82, 3) := by decide +kernel
theorem dX6_bar_61 : decode cX6_bar 61 = .ok (.aload_n 0, 1) := by decide +kernel
theorem dX6_bar_62 : decode cX6_bar 62 = .ok (.getfield 82, 3) := by decide +kernel
theorem dX6_bar_65 : decode cX6_bar 65 = .ok (.iconst 1, 1) := by decide +kernel
theorem dX6_bar_66 : decode cX6_bar 66 = .ok (.isub, 1) := by decide +kernel
theorem dX6_bar_67 : decode cX6_bar 67 = .ok (.ireturn, 1) := by decide +kernel
theorem dX6_voice_0 : decode cX6_voice 0 = .ok (.iload_n 1, 1) := by decide +kernel
theorem dX6_voice_1 : decode cX6_voice 1 = .ok (.iconst 0, 1) := by decide +kernel
theorem dX6_voice_2 : decode cX6_voice 2 = .ok (.iconst 2, 1) := by decide +kernel
theorem dX6_voice_3 : decode cX6_voice 3 = .ok (.invokestatic 85, 3) := by decide +kernel
theorem dX6_voice_6 : decode cX6_voice 6 = .ok (.ifCond .eq 26, 3) := by decide +kernel
theorem dX6_voice_9 : decode cX6_voice 9 = .ok (.iload_n 1, 1) := by decide +kernel
theorem dX6_voice_10 : decode cX6_voice 10 = .ok (.iconst 2, 1) := by decide +kernel
theorem dX6_voice_11 : decode cX6_voice 11 = .ok (.if_icmp .ne 17, 3) := by decide +kernel
theorem dX6_voice_14 : decode cX6_voice 14 = .ok (.iload_n 2, 1) := by decide +kernel
theorem dX6_voice_15 : decode cX6_voice 15 = .ok (.bipush (-11), 2) := by decide +kernel
theorem dX6_voice_17 : decode cX6_voice 17 = .ok (.bipush 11, 2) := by decide +kernel
theorem dX6_voice_19 : decode cX6_voice 19 = .ok (.invokestatic 85, 3) := by decide +kernel
theorem dX6_voice_22 : decode cX6_voice 22 = .ok (.ifCond .ne 16, 3) := by decide +kernel
theorem dX6_voice_25 : decode cX6_voice 25 = .ok (.goto 7, 3) := by decide +kernel
theorem dX6_voice_28 : decode cX6_voice 28 = .ok (.iload_n 2, 1) := by decide +kernel
theorem dX6_voice_29 : decode cX6_voice 29 = .ok (.ifCond .eq 9, 3) := by decide +kernel
theorem dX6_voice_32 : decode cX6_voice 32 = .ok (.aload_n 0, 1) := by decide +kernel
theorem dX6_voice_33 : decode cX6_voice 33 = .ok (.iconst 1, 1) := by decide +kernel
theorem dX6_voice_34 : decode cX6_voice 34 = .ok (.invokevirtual 92, 3) := by decide +kernel
theorem dX6_voice_37 : decode cX6_voice 37 = .ok (.ireturn, 1) := by decide +kernel
theorem dX6_voice_38 : decode cX6_voice 38 = .ok (.aload_n 0, 1) := by decide +kernel
theorem dX6_voice_39 : decode cX6_voice 39 = .ok (.getfield 89, 3) := by decide +kernel
theorem dX6_voice_42 : decode cX6_voice 42 = .ok (.bipush 6, 2) := by decide +kernel
theorem dX6_voice_44 : decode cX6_voice 44 = .ok (.if_icmp .ne 9, 3) := by decide +kernel
theorem dX6_voice_47 : decode cX6_voice 47 = .ok (.aload_n 0, 1) := by decide +kernel
theorem dX6_voice_48 : decode cX6_voice 48 = .ok (.iconst 4, 1) := by decide +kernel
theorem dX6_voice_49 : decode cX6_voice 49 = .ok (.invokevirtual 92, 3) := by decide +kernel
theorem dX6_voice_52 : decode cX6_voice 52 = .ok (.ireturn, 1) := by decide +kernel
theorem dX6_voice_53 : decode cX6_voice 53 = .ok (.aload_n 0, 1) := by decide +kernel
theorem dX6_voice_54 : decode cX6_voice 54 = .ok (.getfield 29, 3) := by decide +kernel
theorem dX6_voice_57 : decode cX6_voice 57 = .ok (.aload_n 0, 1) := by decide +kernel
theorem dX6_voice_58 : decode cX6_voice 58 = .ok (.getfield 89, 3) := by decide +kernel
theorem dX6_voice_61 : decode cX6_voice 61 = .ok (.iload_n 1, 1) := by decide +kernel
theorem dX6_voice_62 : decode cX6_voice 62 = .ok (.iastore, 1) := by decide +kernel
theorem dX6_voice_63 : decode cX6_voice 63 = .ok (.aload_n 0, 1) := by decide +kernel
theorem dX6_voice_64 : decode cX6_voice 64 = .ok (.getfield 32, 3) := by decide +kernel
theorem dX6_voice_67 : decode cX6_voice 67 = .ok (.aload_n 0, 1) := by decide +kernel
theorem dX6_voice_68 : decode cX6_voice 68 = .ok (.getfield 89, 3) := by decide +kernel
theorem dX6_voice_71 : decode cX6_voice 71 = .ok (.iload_n 2, 1) := by decide +kernel
theorem dX6_voice_72 : decode cX6_voice 72 = .ok (.iastore, 1) := by decide +kernel
theorem dX6_voice_73 : decode cX6_voice 73 = .ok (.aload_n 0, 1) := by decide +kernel
theorem dX6_voice_74 : decode cX6_voice 74 = .ok (.getfield 35, 3) := by decide +kernel
theorem dX6_voice_77 : decode cX6_voice 77 = .ok (.aload_n 0, 1) := by decide +kernel
theorem dX6_voice_78 : decode cX6_voice 78 = .ok (.getfield 89, 3) := by decide +kernel
theorem dX6_voice_81 : decode cX6_voice 81 = .ok (.iconst 1, 1) := by decide +kernel
theorem dX6_voice_82 : decode cX6_voice 82 = .ok (.iastore, 1) := by decide +kernel
theorem dX6_voice_83 : decode cX6_voice 83 = .ok (.aload_n 0, 1) := by decide +kernel
theorem dX6_voice_84 : decode cX6_voice 84 = .ok (.dup, 1) := by decide +kernel
theorem dX6_voice_85 : decode cX6_voice 85 = .ok (.getfield 89, 3) := by decide +kernel
theorem dX6_voice_88 : decode cX6_voice 88 = .ok (.iconst 1, 1) := by decide +kernel
theorem dX6_voice_89 : decode cX6_voice 89 = .ok (.iadd, 1) := by decide +kernel
theorem dX6_voice_90 : decode cX6_voice 90 = .ok (.putfield 89, 3) := by decide +kernel
theorem dX6_voice_93 : decode cX6_voice 93 = .ok (.aload_n 0, 1) := by decide +kernel
theorem dX6_voice_94 : decode cX6_voice 94 = .ok (.getfield 89, 3) := by decide +kernel
theorem dX6_voice_97 : decode cX6_voice 97 = .ok (.iconst 1, 1) := by decide +kernel
theorem dX6_voice_98 : decode cX6_voice 98 = .ok (.isub, 1) := by decide +kernel
theorem dX6_voice_99 : decode cX6_voice 99 = .ok (.ireturn, 1) := by decide +kernel
theorem dX6_as_0 : decode cX6_as 0 = .ok (.aload_n 0, 1) := by decide +kernel
theorem dX6_as_1 : decode cX6_as 1 = .ok (.iload_n 1, 1) := by decide +kernel
theorem dX6_as_2 : decode cX6_as 2 = .ok (.invokevirtual 96, 3) := by decide +kernel
theorem dX6_as_5 : decode cX6_as 5 = .ok (.ifCond .eq 12, 3) := by decide +kernel
theorem dX6_as_8 : decode cX6_as 8 = .ok (.iload_n 2, 1) := by decide +kernel
theorem dX6_as_9 : decode cX6_as 9 = .ok (.iconst 0, 1) := by decide +kernel
theorem dX6_as_10 : decode cX6_as 10 = .ok (.iconst 2, 1) := by decide +kernel
theorem dX6_as_11 : decode cX6_as 11 = .ok (.invokestatic 85, 3) := by decide +kernel
theorem dX6_as_14 : decode cX6_as 14 = .ok (.ifCond .ne 9, 3) := by decide +kernel
theorem dX6_as_17 : decode cX6_as 17 = .ok (.aload_n 0, 1) := by decide +kernel
theorem dX6_as_18 : decode cX6_as 18 = .ok (.iconst 1, 1) := by decide +kernel
theorem dX6_as_19 : decode cX6_as 19 = .ok (.invokevirtual 92, 3) := by decide +kernel
theorem dX6_as_22 : decode cX6_as 22 = .ok (.ireturn, 1) := by decide +kernel
theorem dX6_as_23 : decode cX6_as 23 = .ok (.iload_n 2, 1) := by decide +kernel
theorem dX6_as_24 : decode cX6_as 24 = .ok (.ifCond .eq 13, 3) := by decide +kernel
theorem dX6_as_27 : decode cX6_as 27 = .ok (.aload_n 0, 1) := by decide +kernel
theorem dX6_as_28 : decode cX6_as 28 = .ok (.getfield 29, 3) := by decide +kernel
theorem dX6_as_31 : decode cX6_as 31 = .ok (.iload_n 1, 1) := by decide +kernel
theorem dX6_as_32 : decode cX6_as 32 = .ok (.iaload, 1) := by decide +kernel
theorem dX6_as_33 : decode cX6_as 33 = .ok (.iload_n 2, 1) := by decide +kernel
theorem dX6_as_34 : decode cX6_as 34 = .ok (.if_icmp .ne 12, 3) := by decide +kernel
theorem dX6_as_37 : decode cX6_as 37 = .ok (.aload_n 0, 1) := by decide +kernel
theorem dX6_as_38 : decode cX6_as 38 = .ok (.getfield 32, 3) := by decide +kernel
theorem dX6_as_41 : decode cX6_as 41 = .ok (.iload_n 1, 1) := by decide +kernel
theorem dX6_as_42 : decode cX6_as 42 = .ok (.iaload, 1) := by decide +kernel
theorem dX6_as_43 : decode cX6_as 43 = .ok (.goto 8, 3) := by decide +kernel
theorem dX6_as_46 : decode cX6_as 46 = .ok (.aload_n 0, 1) := by decide +kernel
theorem dX6_as_47 : decode cX6_as 47 = .ok (.iconst 5, 1) := by decide +kernel
theorem dX6_as_48 : decode cX6_as 48 = .ok (.invokevirtual 92, 3) := by decide +kernel
theorem dX6_as_51 : decode cX6_as 51 = .ok (.ireturn, 1) := by decide +kernel
theorem dX6_notes_0 : decode cX6_notes 0 = .ok (.aload_n 0, 1) := by decide +kernel
theorem dX6_notes_1 : decode cX6_notes 1 = .ok (.iload_n 1, 1) := by decide +kernel
theorem dX6_notes_2 : decode cX6_notes 2 = .ok (.invokevirtual 96, 3) := by decide +kernel
theorem dX6_notes_5 : decode cX6_notes 5 = .ok (.ifCond .eq 40, 3) := by decide +kernel
theorem dX6_notes_8 : decode cX6_notes 8 = .ok (.aload_n 0, 1) := by decide +kernel
theorem dX6_notes_9 : decode cX6_notes 9 = .ok (.iload_n 2, 1) := by decide +kernel
theorem dX6_notes_10 : decode cX6_notes 10 = .ok (.invokevirtual 100, 3) := by decide +kernel
theorem dX6_notes_13 : decode cX6_notes 13 = .ok (.ifCond .eq 32, 3) := by decide +kernel
theorem dX6_notes_16 : decode cX6_notes 16 = .ok (.iload_n 3, 1) := by decide +kernel
theorem dX6_notes_17 : decode cX6_notes 17 = .ok (.iconst 0, 1) := by decide +kernel
theorem dX6_notes_18 : decode cX6_notes 18 = .ok (.bipush 16, 2) := by decide +kernel
theorem dX6_notes_20 : decode cX6_notes 20 = .ok (.invokestatic 85, 3) := by decide +kernel
theorem dX6_notes_23 : decode cX6_notes 23 = .ok (.ifCond .eq 22, 3) := by decide +kernel
theorem dX6_notes_26 : decode cX6_notes 26 = .ok (.iload 4, 2) := by decide +kernel
theorem dX6_notes_28 : decode cX6_notes 28 = .ok (.iconst 0, 1) := by decide +kernel
theorem dX6_notes_29 : decode cX6_notes 29 = .ok (.iload_n 3, 1) := by decide +kernel
theorem dX6_notes_30 : decode cX6_notes 30 = .ok (.ifCond .ne 7, 3) := by decide +kernel
theorem dX6_notes_33 : decode cX6_notes 33 = .ok (.iconst 0, 1) := by decide +kernel
theorem dX6_notes_34 : decode cX6_notes 34 = .ok (.goto 5, 3) := by decide +kernel
theorem dX6_notes_37 : decode cX6_notes 37 = .ok (.bipush 9, 2) := by decide +kernel
theorem dX6_notes_39 : decode cX6_notes 39 = .ok (.invokestatic 85, 3) := by decide +kernel
theorem dX6_notes_42 : decode cX6_notes 42 = .ok (.ifCond .ne 9, 3) := by decide +kernel
theorem dX6_notes_45 : decode cX6_notes 45 = .ok (.aload_n 0, 1) := by decide +kernel
theorem dX6_notes_46 : decode cX6_notes 46 = .ok (.iconst 1, 1) := by decide +kernel
theorem dX6_notes_47 : decode cX6_notes 47 = .ok (.invokevirtual 92, 3) := by decide +kernel
theorem dX6_notes_50 : decode cX6_notes 50 = .ok (.ireturn, 1) := by decide +kernel
theorem dX6_notes_51 : decode cX6_notes 51 = .ok (.aload_n 0, 1) := by decide +kernel
theorem dX6_notes_52 : decode cX6_notes 52 = .ok (.getfield 38, 3) := by decide +kernel
theorem dX6_notes_55 : decode cX6_notes 55 = .ok (.bipush 40, 2) := by decide +kernel
theorem dX6_notes_57 : decode cX6_notes 57 = .ok (.iload_n 1, 1) := by decide +kernel
theorem dX6_notes_58 : decode cX6_notes 58 = .ok (.imul, 1) := by decide +kernel
theorem dX6_notes_59 : decode cX6_notes 59 = .ok (.iload_n 2, 1) := by decide +kernel
theorem dX6_notes_60 : decode cX6_notes 60 = .ok (.iadd, 1) := by decide +kernel
theorem dX6_notes_61 : decode cX6_notes 61 = .ok (.iaload, 1) := by decide +kernel
theorem dX6_notes_62 : decode cX6_notes 62 = .ok (.istore 5, 2) := by decide +kernel
theorem dX6_notes_64 : decode cX6_notes 64 = .ok (.aload_n 0, 1) := by decide +kernel
theorem dX6_notes_65 : decode cX6_notes 65 = .ok (.getfield 38, 3) := by decide +kernel
theorem dX6_notes_68 : decode cX6_notes 68 = .ok (.bipush 40, 2) := by decide +kernel
theorem dX6_notes_70 : decode cX6_notes 70 = .ok (.iload_n 1, 1) := by decide +kernel
theorem dX6_notes_71 : decode cX6_notes 71 = .ok (.imul, 1) := by decide +kernel
theorem dX6_notes_72 : decode cX6_notes 72 = .ok (.iload_n 2, 1) := by decide +kernel
theorem dX6_notes_73 : decode cX6_notes 73 = .ok (.iadd, 1) := by decide +kernel
theorem dX6_notes_74 : decode cX6_notes 74 = .ok (.iload_n 3, 1) := by decide +kernel
theorem dX6_notes_75 : decode cX6_notes 75 = .ok (.iastore, 1) := by decide +kernel
theorem dX6_notes_76 : decode cX6_notes 76 = .ok (.aload_n 0, 1) := by decide +kernel
theorem dX6_notes_77 : decode cX6_notes 77 = .ok (.getfield 41, 3) := by decide +kernel
theorem dX6_notes_80 : decode cX6_notes 80 = .ok (.bipush 40, 2) := by decide +kernel
theorem dX6_notes_82 : decode cX6_notes 82 = .ok (.iload_n 1, 1) := by decide +kernel
theorem dX6_notes_83 : decode cX6_notes 83 = .ok (.imul, 1) := by decide +kernel
theorem dX6_notes_84 : decode cX6_notes 84 = .ok (.iload_n 2, 1) := by decide +kernel
theorem dX6_notes_85 : decode cX6_notes 85 = .ok (.iadd, 1) := by decide +kernel
theorem dX6_notes_86 : decode cX6_notes 86 = .ok (.iload 4, 2) := by decide +kernel
theorem dX6_notes_88 : decode cX6_notes 88 = .ok (.iastore, 1) := by decide +kernel
theorem dX6_notes_89 : decode cX6_notes 89 = .ok (.iload 5, 2) := by decide +kernel
theorem dX6_notes_91 : decode cX6_notes 91 = .ok (.ireturn, 1) := by decide +kernel
theorem dX6_sign_0 : decode cX6_sign 0 = .ok (.aload_n 0, 1) := by decide +kernel
theorem dX6_sign_1 : decode cX6_sign 1 = .ok (.iload_n 1, 1) := by decide +kernel
theorem dX6_sign_2 : decode cX6_sign 2 = .ok (.invokevirtual 100, 3) := by decide +kernel
theorem dX6_sign_5 : decode cX6_sign 5 = .ok (.ifCond .eq 13, 3) := by decide +kernel
theorem dX6_sign_8 : decode cX6_sign 8 = .ok (.iload_n 2, 1) := by decide +kernel
theorem dX6_sign_9 : decode cX6_sign 9 = .ok (.iconst 0, 1) := by decide +kernel
theorem dX6_sign_10 : decode cX6_sign 10 = .ok (.bipush 7, 2) := by decide +kernel
theorem dX6_sign_12 : decode cX6_sign 12 = .ok (.invokestatic 85, 3) := by decide +kernel
theorem dX6_sign_15 : decode cX6_sign 15 = .ok (.ifCond .ne 9, 3) := by decide +kernel
theorem dX6_sign_18 : decode cX6_sign 18 = .ok (.aload_n 0, 1) := by decide +kernel
theorem dX6_sign_19 : decode cX6_sign 19 = .ok (.iconst 1, 1) := by decide +kernel
theorem dX6_sign_20 : decode cX6_sign 20 = .ok (.invokevirtual 92, 3) := by decide +kernel
theorem dX6_sign_23 : decode cX6_sign 23 = .ok (.ireturn, 1) := by decide +kernel
theorem dX6_sign_24 : decode cX6_sign 24 = .ok (.aload_n 0, 1) := by decide +kernel
theorem dX6_sign_25 : decode cX6_sign 25 = .ok (.getfield 26, 3) := by decide +kernel
theorem dX6_sign_28 : decode cX6_sign 28 = .ok (.iload_n 1, 1) := by decide +kernel
theorem dX6_sign_29 : decode cX6_sign 29 = .ok (.iaload, 1) := by decide +kernel
theorem dX6_sign_30 : decode cX6_sign 30 = .ok (.istore_n 3, 1) := by decide +kernel
theorem dX6_sign_31 : decode cX6_sign 31 = .ok (.aload_n 0, 1) := by decide +kernel
theorem dX6_sign_32 : decode cX6_sign 32 = .ok (.getfield 26, 3) := by decide +kernel
theorem dX6_sign_35 : decode cX6_sign 35 = .ok (.iload_n 1, 1) := by decide +kernel
theorem dX6_sign_36 : decode cX6_sign 36 = .ok (.iload_n 2, 1) := by decide +kernel
theorem dX6_sign_37 : decode cX6_sign 37 = .ok (.iastore, 1) := by decide +kernel
theorem dX6_sign_38 : decode cX6_sign 38 = .ok (.iload_n 3, 1) := by decide +kernel
theorem dX6_sign_39 : decode cX6_sign 39 = .ok (.ireturn, 1) := by decide +kernel
theorem dX6_cut_0 : decode cX6_cut 0 = .ok (.aload_n 0, 1) := by decide +kernel
theorem dX6_cut_1 : decode cX6_cut 1 = .ok (.iload_n 1, 1) := by decide +kernel
theorem dX6_cut_2 : decode cX6_cut 2 = .ok (.invokevirtual 100, 3) := by decide +kernel
theorem dX6_cut_5 : decode cX6_cut 5 = .ok (.ifCond .eq 25, 3) := by decide +kernel
theorem dX6_cut_8 : decode cX6_cut 8 = .ok (.aload_n 0, 1) := by decide +kernel
theorem dX6_cut_9 : decode cX6_cut 9 = .ok (.iload_n 2, 1) := by decide +kernel
theorem dX6_cut_10 : decode cX6_cut 10 = .ok (.invokevirtual 100, 3) := by decide +kernel
theorem dX6_cut_13 : decode cX6_cut 13 = .ok (.ifCond .eq 17, 3) := by decide +kernel
theorem dX6_cut_16 : decode cX6_cut 16 = .ok (.iload_n 1, 1) := by decide +kernel
theorem dX6_cut_17 : decode cX6_cut 17 = .ok (.iload_n 2, 1) := by decide +kernel
theorem dX6_cut_18 : decode cX6_cut 18 = .ok (.if_icmp .gt 12, 3) := by decide +kernel
theorem dX6_cut_21 : decode cX6_cut 21 = .ok (.iload_n 3, 1) := by decide +kernel
theorem dX6_cut_22 : decode cX6_cut 22 = .ok (.iconst 0, 1) := by decide +kernel
theorem dX6_cut_23 : decode cX6_cut 23 = .ok (.iconst 1, 1) := by decide +kernel
theorem dX6_cut_24 : decode cX6_cut 24 = .ok (.invokestatic 85, 3) := by decide +kernel
theorem dX6_cut_27 : decode cX6_cut 27 = .ok (.ifCond .ne 9, 3) := by decide +kernel
theorem dX6_cut_30 : decode cX6_cut 30 = .ok (.aload_n 0, 1) := by decide +kernel
theorem dX6_cut_31 : decode cX6_cut 31 = .ok (.iconst 1, 1) := by decide +kernel
theorem dX6_cut_32 : decode cX6_cut 32 = .ok (.invokevirtual 92, 3) := by decide +kernel
theorem dX6_cut_35 : decode cX6_cut 35 = .ok (.ireturn, 1) := by decide +kernel
theorem dX6_cut_36 : decode cX6_cut 36 = .ok (.iconst 0, 1) := by decide +kernel
theorem dX6_cut_37 : decode cX6_cut 37 = .ok (.istore 4, 2) := by decide +kernel
theorem dX6_cut_39 : decode cX6_cut 39 = .ok (.iload_n 1, 1) := by decide +kernel
theorem dX6_cut_40 : decode cX6_cut 40 = .ok (.istore 5, 2) := by decide +kernel
theorem dX6_cut_42 : decode cX6_cut 42 = .ok (.iload 5, 2) := by decide +kernel
theorem dX6_cut_44 : decode cX6_cut 44 = .ok (.iload_n 2, 1) := by decide +kernel
theorem dX6_cut_45 : decode cX6_cut 45 = .ok (.if_icmp .gt 58, 3) := by decide +kernel
theorem dX6_cut_48 : decode cX6_cut 48 = .ok (.iload 4, 2) := by decide +kernel
theorem dX6_cut_50 : decode cX6_cut 50 = .ok (.aload_n 0, 1) := by decide +kernel
theorem dX6_cut_51 : decode cX6_cut 51 = .ok (.iload 5, 2) := by decide +kernel
theorem dX6_cut_53 : decode cX6_cut 53 = .ok (.invokevirtual 103, 3) := by decide +kernel
theorem dX6_cut_56 : decode cX6_cut 56 = .ok (.iload_n 3, 1) := by decide +kernel
theorem dX6_cut_57 : decode cX6_cut 57 = .ok (.iconst 1, 1) := by decide +kernel
theorem dX6_cut_58 : decode cX6_cut 58 = .ok (.if_icmp .ne 7, 3) := by decide +kernel
theorem dX6_cut_61 : decode cX6_cut 61 = .ok (.iconst 1, 1) := by decide +kernel
theorem dX6_cut_62 : decode cX6_cut 62 = .ok (.goto 4, 3) := by decide +kernel
theorem dX6_cut_65 : decode cX6_cut 65 = .ok (.iconst 0, 1) := by decide +kernel
theorem dX6_cut_66 : decode cX6_cut 66 = .ok (.if_icmp .eq 7, 3) := by decide +kernel
theorem dX6_cut_69 : decode cX6_cut 69 = .ok (.iconst 1, 1) := by decide +kernel
theorem dX6_cut_70 : decode cX6_cut 70 = .ok (.goto 4, 3) := by decide +kernel
theorem dX6_cut_73 : decode cX6_cut 73 = .ok (.iconst 0, 1) := by decide +kernel
theorem dX6_cut_74 : decode cX6_cut 74 = .ok (.iadd, 1) := by decide +kernel
theorem dX6_cut_75 : decode cX6_cut 75 = .ok (.istore 4, 2) := by decide +kernel
theorem dX6_cut_77 : decode cX6_cut 77 = .ok (.aload_n 0, 1) := by decide +kernel
theorem dX6_cut_78 : decode cX6_cut 78 = .ok (.getfield 26, 3) := by decide +kernel
theorem dX6_cut_81 : decode cX6_cut 81 = .ok (.iload 5, 2) := by decide +kernel
theorem dX6_cut_83 : decode cX6_cut 83 = .ok (.aload_n 0, 1) := by decide +kernel
theorem dX6_cut_84 : decode cX6_cut 84 = .ok (.getfield 26, 3) := by decide +kernel
theorem dX6_cut_87 : decode cX6_cut 87 = .ok (.iload 5, 2) := by decide +kernel
theorem dX6_cut_89 : decode cX6_cut 89 = .ok (.iaload, 1) := by decide +kernel
theorem dX6_cut_90 : decode cX6_cut 90 = .ok (.iconst 3, 1) := by decide +kernel
theorem dX6_cut_91 : decode cX6_cut 91 = .ok (.iand, 1) := by decide +kernel
theorem dX6_cut_92 : decode cX6_cut 92 = .ok (.iconst 4, 1) := by decide +kernel
theorem dX6_cut_93 : decode cX6_cut 93 = .ok (.iload_n 3, 1) := by decide +kernel
theorem dX6_cut_94 : decode cX6_cut 94 = .ok (.imul, 1) := by decide +kernel
theorem dX6_cut_95 : decode cX6_cut 95 = .ok (.iadd, 1) := by decide +kernel
theorem dX6_cut_96 : decode cX6_cut 96 = .ok (.iastore, 1) := by decide +kernel
theorem dX6_cut_97 : decode cX6_cut 97 = .ok (.iinc 5 1, 3) := by decide +kernel
theorem dX6_cut_100 : decode cX6_cut 100 = .ok (.goto (-58), 3) := by decide +kernel
theorem dX6_cut_103 : decode cX6_cut 103 = .ok (.iload 4, 2) := by decide +kernel
theorem dX6_cut_105 : decode cX6_cut 105 = .ok (.ireturn, 1) := by decide +kernel
theorem dX6_stage_0 : decode cX6_stage 0 = .ok (.aload_n 0, 1) := by decide +kernel
theorem dX6_stage_1 : decode cX6_stage 1 = .ok (.iload_n 1, 1) := by decide +kernel
theorem dX6_stage_2 : decode cX6_stage 2 = .ok (.invokevirtual 96, 3) := by decide +kernel
theorem dX6_stage_5 : decode cX6_stage 5 = .ok (.ifCond .eq 12, 3) := by decide +kernel
theorem dX6_stage_8 : decode cX6_stage 8 = .ok (.iload_n 2, 1) := by decide +kernel
theorem dX6_stage_9 : decode cX6_stage 9 = .ok (.iconst 0, 1) := by decide +kernel
theorem dX6_stage_10 : decode cX6_stage 10 = .ok (.iconst 1, 1) := by decide +kernel
theorem dX6_stage_11 : decode cX6_stage 11 = .ok (.invokestatic 85, 3) := by decide +kernel
theorem dX6_stage_14 : decode cX6_stage 14 = .ok (.ifCond .ne 9, 3) := by decide +kernel
theorem dX6_stage_17 : decode cX6_stage 17 = .ok (.aload_n 0, 1) := by decide +kernel
theorem dX6_stage_18 : decode cX6_stage 18 = .ok (.iconst 1, 1) := by decide +kernel
theorem dX6_stage_19 : decode cX6_stage 19 = .ok (.invokevirtual 92, 3) := by decide +kernel
theorem dX6_stage_22 : decode cX6_stage 22 = .ok (.ireturn, 1) := by decide +kernel
theorem dX6_stage_23 : decode cX6_stage 23 = .ok (.aload_n 0, 1) := by decide +kernel
theorem dX6_stage_24 : decode cX6_stage 24 = .ok (.getfield 35, 3) := by decide +kernel
theorem dX6_stage_27 : decode cX6_stage 27 = .ok (.iload_n 1, 1) := by decide +kernel
theorem dX6_stage_28 : decode cX6_stage 28 = .ok (.iaload, 1) := by decide +kernel
theorem dX6_stage_29 : decode cX6_stage 29 = .ok (.istore_n 3, 1) := by decide +kernel
theorem dX6_stage_30 : decode cX6_stage 30 = .ok (.aload_n 0, 1) := by decide +kernel
theorem dX6_stage_31 : decode cX6_stage 31 = .ok (.getfield 35, 3) := by decide +kernel
theorem dX6_stage_34 : decode cX6_stage 34 = .ok (.iload_n 1, 1) := by decide +kernel
theorem dX6_stage_35 : decode cX6_stage 35 = .ok (.iload_n 2, 1) := by decide +kernel
theorem dX6_stage_36 : decode cX6_stage 36 = .ok (.iastore, 1) := by decide +kernel
theorem dX6_stage_37 : decode cX6_stage 37 = .ok (.iload_n 3, 1) := by decide +kernel
theorem dX6_stage_38 : decode cX6_stage 38 = .ok (.ireturn, 1) := by decide +kernel
theorem dX6_findRow_0 : decode cX6_findRow 0 = .ok (.aload_n 0, 1) := by decide +kernel
theorem dX6_findRow_1 : decode cX6_findRow 1 = .ok (.iconst 0, 1) := by decide +kernel
theorem dX6_findRow_2 : decode cX6_findRow 2 = .ok (.putfield 106, 3) := by decide +kernel
theorem dX6_findRow_5 : decode cX6_findRow 5 = .ok (.iconst 0, 1) := by decide +kernel
theorem dX6_findRow_6 : decode cX6_findRow 6 = .ok (.istore_n 1, 1) := by decide +kernel
theorem dX6_findRow_7 : decode cX6_findRow 7 = .ok (.iload_n 1, 1) := by decide +kernel
theorem dX6_findRow_8 : decode cX6_findRow 8 = .ok (.aload_n 0, 1) := by decide +kernel
theorem dX6_findRow_9 : decode cX6_findRow 9 = .ok (.getfield 82, 3) := by decide +kernel
theorem dX6_findRow_12 : decode cX6_findRow 12 = .ok (.if_icmp .ge 40, 3) := by decide +kernel
theorem dX6_findRow_15 : decode cX6_findRow 15 = .ok (.aload_n 0, 1) := by decide +kernel
theorem dX6_findRow_16 : decode cX6_findRow 16 = .ok (.iload_n 1, 1) := by decide +kernel
theorem dX6_findRow_17 : decode cX6_findRow 17 = .ok (.invokevirtual 103, 3) := by decide +kernel
theorem dX6_findRow_20 : decode cX6_findRow 20 = .ok (.ifCond .eq 6, 3) := by decide +kernel
theorem dX6_findRow_23 : decode cX6_findRow 23 = .ok (.goto 23, 3) := by decide +kernel
theorem dX6_findRow_26 : decode cX6_findRow 26 = .ok (.aload_n 0, 1) := by decide +kernel
theorem dX6_findRow_27 : decode cX6_findRow 27 = .ok (.getfield 50, 3) := by decide +kernel
theorem dX6_findRow_30 : decode cX6_findRow 30 = .ok (.aload_n 0, 1) := by decide +kernel
theorem dX6_findRow_31 : decode cX6_findRow 31 = .ok (.getfield 106, 3) := by decide +kernel
theorem dX6_findRow_34 : decode cX6_findRow 34 = .ok (.iload_n 1, 1) := by decide +kernel
theorem dX6_findRow_35 : decode cX6_findRow 35 = .ok (.iastore, 1) := by decide +kernel
theorem dX6_findRow_36 : decode cX6_findRow 36 = .ok (.aload_n 0, 1) := by decide +kernel
theorem dX6_findRow_37 : decode cX6_findRow 37 = .ok (.dup, 1) := by decide +kernel
theorem dX6_findRow_38 : decode cX6_findRow 38 = .ok (.getfield 106, 3) := by decide +kernel
theorem dX6_findRow_41 : decode cX6_findRow 41 = .ok (.iconst 1, 1) := by decide +kernel
theorem dX6_findRow_42 : decode cX6_findRow 42 = .ok (.iadd, 1) := by decide +kernel
theorem dX6_findRow_43 : decode cX6_findRow 43 = .ok (.putfield 106, 3) := by decide +kernel
theorem dX6_findRow_46 : decode cX6_findRow 46 = .ok (.iinc 1 1, 3) := by decide +kernel
theorem dX6_findRow_49 : decode cX6_findRow 49 = .ok (.goto (-42), 3) := by decide +kernel
theorem dX6_findRow_52 : decode cX6_findRow 52 = .ok (.return_, 1) := by decide +kernel
theorem dX6_rests_0 : decode cX6_rests 0 = .ok (.aload_n 0, 1) := by decide +kernel
theorem dX6_rests_1 : decode cX6_rests 1 = .ok (.getfield 38, 3) := by decide +kernel
theorem dX6_rests_4 : decode cX6_rests 4 = .ok (.bipush 40, 2) := by decide +kernel
theorem dX6_rests_6 : decode cX6_rests 6 = .ok (.iload_n 1, 1) := by decide +kernel
theorem dX6_rests_7 : decode cX6_rests 7 = .ok (.imul, 1) := by decide +kernel
theorem dX6_rests_8 : decode cX6_rests 8 = .ok (.aload_n 0, 1) := by decide +kernel
theorem dX6_rests_9 : decode cX6_rests 9 = .ok (.getfield 50, 3) := by decide +kernel
theorem dX6_rests_12 : decode cX6_rests 12 = .ok (.iload_n 2, 1) := by decide +kernel
theorem dX6_rests_13 : decode cX6_rests 13 = .ok (.iaload, 1) := by decide +kernel
theorem dX6_rests_14 : decode cX6_rests 14 = .ok (.iadd, 1) := by decide +kernel
theorem dX6_rests_15 : decode cX6_rests 15 = .ok (.iaload, 1) := by decide +kernel
theorem dX6_rests_16 : decode cX6_rests 16 = .ok (.ifCond .ne 7, 3) := by decide +kernel
theorem dX6_rests_19 : decode cX6_rests 19 = .ok (.iconst 1, 1) := by decide +kernel
theorem dX6_rests_20 : decode cX6_rests 20 = .ok (.goto 4, 3) := by decide +kernel
theorem dX6_rests_23 : decode cX6_rests 23 = .ok (.iconst 0, 1) := by decide +kernel
theorem dX6_rests_24 : decode cX6_rests 24 = .ok (.ireturn, 1) := by decide +kernel
theorem dX6_begins_0 : decode cX6_begins 0 = .ok (.aload_n 0, 1) := by decide +kernel
theorem dX6_begins_1 : decode cX6_begins 1 = .ok (.iload_n 1, 1) := by decide +kernel
theorem dX6_begins_2 : decode cX6_begins 2 = .ok (.iload_n 2, 1) := by decide +kernel
theorem dX6_begins_3 : decode cX6_begins 3 = .ok (.invokevirtual 109, 3) := by decide +kernel
theorem dX6_begins_6 : decode cX6_begins 6 = .ok (.ifCond .ne 5, 3) := by decide +kernel
theorem dX6_begins_9 : decode cX6_begins 9 = .ok (.iconst 0, 1) := by decide +kernel
theorem dX6_begins_10 : decode cX6_begins 10 = .ok (.ireturn, 1) := by decide +kernel
theorem dX6_begins_11 : decode cX6_begins 11 = .ok (.iload_n 2, 1) := by decide +kernel
theorem dX6_begins_12 : decode cX6_begins 12 = .ok (.ifCond .eq 47, 3) := by decide +kernel
theorem dX6_begins_15 : decode cX6_begins 15 = .ok (.aload_n 0, 1) := by decide +kernel
theorem dX6_begins_16 : decode cX6_begins 16 = .ok (.iload_n 1, 1) := by decide +kernel
theorem dX6_begins_17 : decode cX6_begins 17 = .ok (.iload_n 2, 1) := by decide +kernel
theorem dX6_begins_18 : decode cX6_begins 18 = .ok (.iconst 1, 1) := by decide +kernel
theorem dX6_begins_19 : decode cX6_begins 19 = .ok (.isub, 1) := by decide +kernel
theorem dX6_begins_20 : decode cX6_begins 20 = .ok (.invokevirtual 109, 3) := by decide +kernel
theorem dX6_begins_23 : decode cX6_begins 23 = .ok (.ifCond .eq 36, 3) := by decide +kernel
theorem dX6_begins_26 : decode cX6_begins 26 = .ok (.aload_n 0, 1) := by decide +kernel
theorem dX6_begins_27 : decode cX6_begins 27 = .ok (.getfield 26, 3) := by decide +kernel
theorem dX6_begins_30 : decode cX6_begins 30 = .ok (.aload_n 0, 1) := by decide +kernel
theorem dX6_begins_31 : decode cX6_begins 31 = .ok (.getfield 50, 3) := by decide +kernel
theorem dX6_begins_34 : decode cX6_begins 34 = .ok (.iload_n 2, 1) := by decide +kernel
theorem dX6_begins_35 : decode cX6_begins 35 = .ok (.iaload, 1) := by decide +kernel
theorem dX6_begins_36 : decode cX6_begins 36 = .ok (.iaload, 1) := by decide +kernel
theorem dX6_begins_37 : decode cX6_begins 37 = .ok (.ifCond .ne 22, 3) := by decide +kernel
theorem dX6_begins_40 : decode cX6_begins 40 = .ok (.aload_n 0, 1) := by decide +kernel
theorem dX6_begins_41 : decode cX6_begins 41 = .ok (.getfield 26, 3) := by decide +kernel
theorem dX6_begins_44 : decode cX6_begins 44 = .ok (.aload_n 0, 1) := by decide +kernel
theorem dX6_begins_45 : decode cX6_begins 45 = .ok (.getfield 50, 3) := by decide +kernel
theorem dX6_begins_48 : decode cX6_begins 48 = .ok (.iload_n 2, 1) := by decide +kernel
theorem dX6_begins_49 : decode cX6_begins 49 = .ok (.iconst 1, 1) := by decide +kernel
theorem dX6_begins_50 : decode cX6_begins 50 = .ok (.isub, 1) := by decide +kernel
theorem dX6_begins_51 : decode cX6_begins 51 = .ok (.iaload, 1) := by decide +kernel
theorem dX6_begins_52 : decode cX6_begins 52 = .ok (.iaload, 1) := by decide +kernel
theorem dX6_begins_53 : decode cX6_begins 53 = .ok (.iconst 1, 1) := by decide +kernel
theorem dX6_begins_54 : decode cX6_begins 54 = .ok (.iand, 1) := by decide +kernel
theorem dX6_begins_55 : decode cX6_begins 55 = .ok (.iconst 1, 1) := by decide +kernel
theorem dX6_begins_56 : decode cX6_begins 56 = .ok (.if_icmp .ne 7, 3) := by decide +kernel
theorem dX6_begins_59 : decode cX6_begins 59 = .ok (.iconst 1, 1) := by decide +kernel
theorem dX6_begins_60 : decode cX6_begins 60 = .ok (.goto 4, 3) := by decide +kernel
theorem dX6_begins_63 : decode cX6_begins 63 = .ok (.iconst 0, 1) := by decide +kernel
theorem dX6_begins_64 : decode cX6_begins 64 = .ok (.ireturn, 1) := by decide +kernel
theorem dX6_restsFrom_0 : decode cX6_restsFrom 0 = .ok (.iconst 1, 1) := by decide +kernel
theorem dX6_restsFrom_1 : decode cX6_restsFrom 1 = .ok (.istore_n 3, 1) := by decide +kernel
theorem dX6_restsFrom_2 : decode cX6_restsFrom 2 = .ok (.iload_n 2, 1) := by decide +kernel
theorem dX6_restsFrom_3 : decode cX6_restsFrom 3 = .ok (.iload_n 3, 1) := by decide +kernel
theorem dX6_restsFrom_4 : decode cX6_restsFrom 4 = .ok (.iadd, 1) := by decide +kernel
theorem dX6_restsFrom_5 : decode cX6_restsFrom 5 = .ok (.aload_n 0, 1) := by decide +kernel
theorem dX6_restsFrom_6 : decode cX6_restsFrom 6 = .ok (.getfield 106, 3) := by decide +kernel
theorem dX6_restsFrom_9 : decode cX6_restsFrom 9 = .ok (.if_icmp .ge 31, 3) := by decide +kernel
theorem dX6_restsFrom_12 : decode cX6_restsFrom 12 = .ok (.aload_n 0, 1) := by decide +kernel
theorem dX6_restsFrom_13 : decode cX6_restsFrom 13 = .ok (.iload_n 1, 1) := by decide +kernel
theorem dX6_restsFrom_14 : decode cX6_restsFrom 14 = .ok (.iload_n 2, 1) := by decide +kernel
theorem dX6_restsFrom_15 : decode cX6_restsFrom 15 = .ok (.iload_n 3, 1) := by decide +kernel
theorem dX6_restsFrom_16 : decode cX6_restsFrom 16 = .ok (.iadd, 1) := by decide +kernel
theorem dX6_restsFrom_17 : decode cX6_restsFrom 17 = .ok (.invokevirtual 109, 3) := by decide +kernel
theorem dX6_restsFrom_20 : decode cX6_restsFrom 20 = .ok (.ifCond .eq 20, 3) := by decide +kernel
theorem dX6_restsFrom_23 : decode cX6_restsFrom 23 = .ok (.aload_n 0, 1) := by decide +kernel
theorem dX6_restsFrom_24 : decode cX6_restsFrom 24 = .ok (.iload_n 1, 1) := by decide +kernel
theorem dX6_restsFrom_25 : decode cX6_restsFrom 25 = .ok (.iload_n 2, 1) := by decide +kernel
theorem dX6_restsFrom_26 : decode cX6_restsFrom 26 = .ok (.iload_n 3, 1) := by decide +kernel
theorem dX6_restsFrom_27 : decode cX6_restsFrom 27 = .ok (.iadd, 1) := by decide +kernel
theorem dX6_restsFrom_28 : decode cX6_restsFrom 28 = .ok (.invokevirtual 113, 3) := by decide +kernel
theorem dX6_restsFrom_31 : decode cX6_restsFrom 31 = .ok (.ifCond .ne 9, 3) := by decide +kernel
theorem dX6_restsFrom_34 : decode cX6_restsFrom 34 = .ok (.iinc 3 1, 3) := by decide +kernel
theorem dX6_restsFrom_37 : decode cX6_restsFrom 37 = .ok (.goto (-35), 3) := by decide +kernel
theorem dX6_restsFrom_40 : decode cX6_restsFrom 40 = .ok (.iload_n 3, 1) := by decide +kernel
theorem dX6_restsFrom_41 : decode cX6_restsFrom 41 = .ok (.ireturn, 1) := by decide +kernel
theorem dX6_rest_0 : decode cX6_rest 0 = .ok (.aload_n 0, 1) := by decide +kernel
theorem dX6_rest_1 : decode cX6_rest 1 = .ok (.iload_n 1, 1) := by decide +kernel
theorem dX6_rest_2 : decode cX6_rest 2 = .ok (.invokevirtual 96, 3) := by decide +kernel
theorem dX6_rest_5 : decode cX6_rest 5 = .ok (.ifCond .eq 7, 3) := by decide +kernel
theorem dX6_rest_8 : decode cX6_rest 8 = .ok (.iload_n 2, 1) := by decide +kernel
theorem dX6_rest_9 : decode cX6_rest 9 = .ok (.ifCond .ge 9, 3) := by decide +kernel
theorem dX6_rest_12 : decode cX6_rest 12 = .ok (.aload_n 0, 1) := by decide +kernel
theorem dX6_rest_13 : decode cX6_rest 13 = .ok (.iconst 1, 1) := by decide +kernel
theorem dX6_rest_14 : decode cX6_rest 14 = .ok (.invokevirtual 92, 3) := by decide +kernel
theorem dX6_rest_17 : decode cX6_rest 17 = .ok (.ireturn, 1) := by decide +kernel
theorem dX6_rest_18 : decode cX6_rest 18 = .ok (.aload_n 0, 1) := by decide +kernel
theorem dX6_rest_19 : decode cX6_rest 19 = .ok (.invokevirtual 116, 3) := by decide +kernel
theorem dX6_rest_22 : decode cX6_rest 22 = .ok (.iload_n 2, 1) := by decide +kernel
theorem dX6_rest_23 : decode cX6_rest 23 = .ok (.istore_n 3, 1) := by decide +kernel
theorem dX6_rest_24 : decode cX6_rest 24 = .ok (.iconst 0, 1) := by decide +kernel
theorem dX6_rest_25 : decode cX6_rest 25 = .ok (.istore 4, 2) := by decide +kernel
theorem dX6_rest_27 : decode cX6_rest 27 = .ok (.iload 4, 2) := by decide +kernel
theorem dX6_rest_29 : decode cX6_rest 29 = .ok (.aload_n 0, 1) := by decide +kernel
theorem dX6_rest_30 : decode cX6_rest 30 = .ok (.getfield 106, 3) := by decide +kernel
theorem dX6_rest_33 : decode cX6_rest 33 = .ok (.if_icmp .ge 48, 3) := by decide +kernel
theorem dX6_rest_36 : decode cX6_rest 36 = .ok (.aload_n 0, 1) := by decide +kernel
theorem dX6_rest_37 : decode cX6_rest 37 = .ok (.iload_n 1, 1) := by decide +kernel
theorem dX6_rest_38 : decode cX6_rest 38 = .ok (.iload 4, 2) := by decide +kernel
theorem dX6_rest_40 : decode cX6_rest 40 = .ok (.invokevirtual 113, 3) := by decide +kernel
theorem dX6_rest_43 : decode cX6_rest 43 = .ok (.ifCond .ne 6, 3) := by decide +kernel
theorem dX6_rest_46 : decode cX6_rest 46 = .ok (.goto 29, 3) := by decide +kernel
theorem dX6_rest_49 : decode cX6_rest 49 = .ok (.iload_n 3, 1) := by decide +kernel
theorem dX6_rest_50 : decode cX6_rest 50 = .ok (.ifCond .ne 22, 3) := by decide +kernel
theorem dX6_rest_53 : decode cX6_rest 53 = .ok (.bipush 100, 2) := by decide +kernel
theorem dX6_rest_55 : decode cX6_rest 55 = .ok (.aload_n 0, 1) := by decide +kernel
theorem dX6_rest_56 : decode cX6_rest 56 = .ok (.getfield 50, 3) := by decide +kernel
theorem dX6_rest_59 : decode cX6_rest 59 = .ok (.iload 4, 2) := by decide +kernel
theorem dX6_rest_61 : decode cX6_rest 61 = .ok (.iaload, 1) := by decide +kernel
theorem dX6_rest_62 : decode cX6_rest 62 = .ok (.imul, 1) := by decide +kernel
theorem dX6_rest_63 : decode cX6_rest 63 = .ok (.aload_n 0, 1) := by decide +kernel
theorem dX6_rest_64 : decode cX6_rest 64 = .ok (.iload_n 1, 1) := by decide +kernel
theorem dX6_rest_65 : decode cX6_rest 65 = .ok (.iload 4, 2) := by decide +kernel
theorem dX6_rest_67 : decode cX6_rest 67 = .ok (.invokevirtual 119, 3) := by decide +kernel
theorem dX6_rest_70 : decode cX6_rest 70 = .ok (.iadd, 1) := by decide +kernel
theorem dX6_rest_71 : decode cX6_rest 71 = .ok (.ireturn, 1) := by decide +kernel
theorem dX6_rest_72 : decode cX6_rest 72 = .ok (.iinc 3 (-1), 3) := by decide +kernel
theorem dX6_rest_75 : decode cX6_rest 75 = .ok (.iinc 4 1, 3) := by decide +kernel
theorem dX6_rest_78 : decode cX6_rest 78 = .ok (.goto (-51), 3) := by decide +kernel
theorem dX6_rest_81 : decode cX6_rest 81 = .ok (.aload_n 0, 1) := by decide +kernel
theorem dX6_rest_82 : decode cX6_rest 82 = .ok (.iconst 2, 1) := by decide +kernel
theorem dX6_rest_83 : decode cX6_rest 83 = .ok (.invokevirtual 92, 3) := by decide +kernel
theorem dX6_rest_86 : decode cX6_rest 86 = .ok (.ireturn, 1) := by decide +kernel
theorem dX6_cueAt_0 : decode cX6_cueAt 0 = .ok (.aload_n 0, 1) := by decide +kernel
theorem dX6_cueAt_1 : decode cX6_cueAt 1 = .ok (.iload_n 1, 1) := by decide +kernel
theorem dX6_cueAt_2 : decode cX6_cueAt 2 = .ok (.iload_n 2, 1) := by decide +kernel
theorem dX6_cueAt_3 : decode cX6_cueAt 3 = .ok (.invokevirtual 109, 3) := by decide +kernel
theorem dX6_cueAt_6 : decode cX6_cueAt 6 = .ok (.ifCond .ne 11, 3) := by decide +kernel
theorem dX6_cueAt_9 : decode cX6_cueAt 9 = .ok (.iload_n 2, 1) := by decide +kernel
theorem dX6_cueAt_10 : decode cX6_cueAt 10 = .ok (.aload_n 0, 1) := by decide +kernel
theorem dX6_cueAt_11 : decode cX6_cueAt 11 = .ok (.getfield 7, 3) := by decide +kernel
theorem dX6_cueAt_14 : decode cX6_cueAt 14 = .ok (.if_icmp .ge 5, 3) := by decide +kernel
theorem dX6_cueAt_17 : decode cX6_cueAt 17 = .ok (.iconst (-1), 1) := by decide +kernel
theorem dX6_cueAt_18 : decode cX6_cueAt 18 = .ok (.ireturn, 1) := by decide +kernel
theorem dX6_cueAt_19 : decode cX6_cueAt 19 = .ok (.iconst 1, 1) := by decide +kernel
theorem dX6_cueAt_20 : decode cX6_cueAt 20 = .ok (.istore_n 3, 1) := by decide +kernel
theorem dX6_cueAt_21 : decode cX6_cueAt 21 = .ok (.iload_n 3, 1) := by decide +kernel
theorem dX6_cueAt_22 : decode cX6_cueAt 22 = .ok (.aload_n 0, 1) := by decide +kernel
theorem dX6_cueAt_23 : decode cX6_cueAt 23 = .ok (.getfield 7, 3) := by decide +kernel
theorem dX6_cueAt_26 : decode cX6_cueAt 26 = .ok (.if_icmp .gt 22, 3) := by decide +kernel
theorem dX6_cueAt_29 : decode cX6_cueAt 29 = .ok (.aload_n 0, 1) := by decide +kernel
theorem dX6_cueAt_30 : decode cX6_cueAt 30 = .ok (.iload_n 1, 1) := by decide +kernel
theorem dX6_cueAt_31 : decode cX6_cueAt 31 = .ok (.iload_n 2, 1) := by decide +kernel
theorem dX6_cueAt_32 : decode cX6_cueAt 32 = .ok (.iload_n 3, 1) := by decide +kernel
theorem dX6_cueAt_33 : decode cX6_cueAt 33 = .ok (.isub, 1) := by decide +kernel
theorem dX6_cueAt_34 : decode cX6_cueAt 34 = .ok (.invokevirtual 109, 3) := by decide +kernel
theorem dX6_cueAt_37 : decode cX6_cueAt 37 = .ok (.ifCond .ne 5, 3) := by decide +kernel
theorem dX6_cueAt_40 : decode cX6_cueAt 40 = .ok (.iconst (-1), 1) := by decide +kernel
theorem dX6_cueAt_41 : decode cX6_cueAt 41 = .ok (.ireturn, 1) := by decide +kernel
theorem dX6_cueAt_42 : decode cX6_cueAt 42 = .ok (.iinc 3 1, 3) := by decide +kernel
theorem dX6_cueAt_45 : decode cX6_cueAt 45 = .ok (.goto (-24), 3) := by decide +kernel
theorem dX6_cueAt_48 : decode cX6_cueAt 48 = .ok (.iconst (-1), 1) := by decide +kernel
theorem dX6_cueAt_49 : decode cX6_cueAt 49 = .ok (.istore_n 3, 1) := by decide +kernel
theorem dX6_cueAt_50 : decode cX6_cueAt 50 = .ok (.iconst 0, 1) := by decide +kernel
theorem dX6_cueAt_51 : decode cX6_cueAt 51 = .ok (.istore 4, 2) := by decide +kernel
theorem dX6_cueAt_53 : decode cX6_cueAt 53 = .ok (.iconst 0, 1) := by decide +kernel
theorem dX6_cueAt_54 : decode cX6_cueAt 54 = .ok (.istore 5, 2) := by decide +kernel
theorem dX6_cueAt_56 : decode cX6_cueAt 56 = .ok (.iload 5, 2) := by decide +kernel
theorem dX6_cueAt_58 : decode cX6_cueAt 58 = .ok (.aload_n 0, 1) := by decide +kernel
theorem dX6_cueAt_59 : decode cX6_cueAt 59 = .ok (.getfield 89, 3) := by decide +kernel
theorem dX6_cueAt_62 : decode cX6_cueAt 62 = .ok (.if_icmp .ge 98, 3) := by decide +kernel
theorem dX6_cueAt_65 : decode cX6_cueAt 65 = .ok (.iload 5, 2) := by decide +kernel
theorem dX6_cueAt_67 : decode cX6_cueAt 67 = .ok (.iload_n 1, 1) := by decide +kernel
theorem dX6_cueAt_68 : decode cX6_cueAt 68 = .ok (.if_icmp .eq 86, 3) := by decide +kernel
theorem dX6_cueAt_71 : decode cX6_cueAt 71 = .ok (.aload_n 0, 1) := by decide +kernel
theorem dX6_cueAt_72 : decode cX6_cueAt 72 = .ok (.getfield 35, 3) := by decide +kernel
theorem dX6_cueAt_75 : decode cX6_cueAt 75 = .ok (.iload 5, 2) := by decide +kernel
theorem dX6_cueAt_77 : decode cX6_cueAt 77 = .ok (.iaload, 1) := by decide +kernel
theorem dX6_cueAt_78 : decode cX6_cueAt 78 = .ok (.ifCond .ne 6, 3) := by decide +kernel
theorem dX6_cueAt_81 : decode cX6_cueAt 81 = .ok (.goto 73, 3) := by decide +kernel
theorem dX6_cueAt_84 : decode cX6_cueAt 84 = .ok (.aload_n 0, 1) := by decide +kernel
theorem dX6_cueAt_85 : decode cX6_cueAt 85 = .ok (.getfield 41, 3) := by decide +kernel
theorem dX6_cueAt_88 : decode cX6_cueAt 88 = .ok (.bipush 40, 2) := by decide +kernel
theorem dX6_cueAt_90 : decode cX6_cueAt 90 = .ok (.iload 5, 2) := by decide +kernel
theorem dX6_cueAt_92 : decode cX6_cueAt 92 = .ok (.imul, 1) := by decide +kernel
theorem dX6_cueAt_93 : decode cX6_cueAt 93 = .ok (.aload_n 0, 1) := by decide +kernel
theorem dX6_cueAt_94 : decode cX6_cueAt 94 = .ok (.getfield 50, 3) := by decide +kernel
theorem dX6_cueAt_97 : decode cX6_cueAt 97 = .ok (.iload_n 2, 1) := by decide +kernel
theorem dX6_cueAt_98 : decode cX6_cueAt 98 = .ok (.iconst 1, 1) := by decide +kernel
theorem dX6_cueAt_99 : decode cX6_cueAt 99 = .ok (.isub, 1) := by decide +kernel
theorem dX6_cueAt_100 : decode cX6_cueAt 100 = .ok (.iaload, 1) := by decide +kernel
theorem dX6_cueAt_101 : decode cX6_cueAt 101 = .ok (.iadd, 1) := by decide +kernel
theorem dX6_cueAt_102 : decode cX6_cueAt 102 = .ok (.iaload, 1) := by decide +kernel
theorem dX6_cueAt_103 : decode cX6_cueAt 103 = .ok (.aload_n 0, 1) := by decide +kernel
theorem dX6_cueAt_104 : decode cX6_cueAt 104 = .ok (.getfield 7, 3) := by decide +kernel
theorem dX6_cueAt_107 : decode cX6_cueAt 107 = .ok (.iconst 1, 1) := by decide +kernel
theorem dX6_cueAt_108 : decode cX6_cueAt 108 = .ok (.if_icmp .le 25, 3) := by decide +kernel
theorem dX6_cueAt_111 : decode cX6_cueAt 111 = .ok (.aload_n 0, 1) := by decide +kernel
theorem dX6_cueAt_112 : decode cX6_cueAt 112 = .ok (.getfield 41, 3) := by decide +kernel
theorem dX6_cueAt_115 : decode cX6_cueAt 115 = .ok (.bipush 40, 2) := by decide +kernel
theorem dX6_cueAt_117 : decode cX6_cueAt 117 = .ok (.iload 5, 2) := by decide +kernel
theorem dX6_cueAt_119 : decode cX6_cueAt 119 = .ok (.imul, 1) := by decide +kernel
theorem dX6_cueAt_120 : decode cX6_cueAt 120 = .ok (.aload_n 0, 1) := by decide +kernel
theorem dX6_cueAt_121 : decode cX6_cueAt 121 = .ok (.getfield 50, 3) := by decide +kernel
theorem dX6_cueAt_124 : decode cX6_cueAt 124 = .ok (.iload_n 2, 1) := by decide +kernel
theorem dX6_cueAt_125 : decode cX6_cueAt 125 = .ok (.iconst 2, 1) := by decide +kernel
theorem dX6_cueAt_126 : decode cX6_cueAt 126 = .ok (.isub, 1) := by decide +kernel
theorem dX6_cueAt_127 : decode cX6_cueAt 127 = .ok (.iaload, 1) := by decide +kernel
theorem dX6_cueAt_128 : decode cX6_cueAt 128 = .ok (.iadd, 1) := by decide +kernel
theorem dX6_cueAt_129 : decode cX6_cueAt 129 = .ok (.iaload, 1) := by decide +kernel
theorem dX6_cueAt_130 : decode cX6_cueAt 130 = .ok (.goto 4, 3) := by decide +kernel
theorem dX6_cueAt_133 : decode cX6_cueAt 133 = .ok (.iconst 0, 1) := by decide +kernel
theorem dX6_cueAt_134 : decode cX6_cueAt 134 = .ok (.iadd, 1) := by decide +kernel
theorem dX6_cueAt_135 : decode cX6_cueAt 135 = .ok (.istore 6, 2) := by decide +kernel
theorem dX6_cueAt_137 : decode cX6_cueAt 137 = .ok (.iload 6, 2) := by decide +kernel
theorem dX6_cueAt_139 : decode cX6_cueAt 139 = .ok (.iload 4, 2) := by decide +kernel
theorem dX6_cueAt_141 : decode cX6_cueAt 141 = .ok (.if_icmp .gt 6, 3) := by decide +kernel
theorem dX6_cueAt_144 : decode cX6_cueAt 144 = .ok (.goto 10, 3) := by decide +kernel
theorem dX6_cueAt_147 : decode cX6_cueAt 147 = .ok (.iload 5, 2) := by decide +kernel
theorem dX6_cueAt_149 : decode cX6_cueAt 149 = .ok (.istore_n 3, 1) := by decide +kernel
theorem dX6_cueAt_150 : decode cX6_cueAt 150 = .ok (.iload 6, 2) := by decide +kernel
theorem dX6_cueAt_152 : decode cX6_cueAt 152 = .ok (.istore 4, 2) := by decide +kernel
theorem dX6_cueAt_154 : decode cX6_cueAt 154 = .ok (.iinc 5 1, 3) := by decide +kernel
theorem dX6_cueAt_157 : decode cX6_cueAt 157 = .ok (.goto (-101), 3) := by decide +kernel
theorem dX6_cueAt_160 : decode cX6_cueAt 160 = .ok (.iload_n 3, 1) := by decide +kernel
theorem dX6_cueAt_161 : decode cX6_cueAt 161 = .ok (.ireturn, 1) := by decide +kernel
theorem dX6_cue_0 : decode cX6_cue 0 = .ok (.aload_n 0, 1) := by decide +kernel
theorem dX6_cue_1 : decode cX6_cue 1 = .ok (.iload_n 1, 1) := by decide +kernel
theorem dX6_cue_2 : decode cX6_cue 2 = .ok (.invokevirtual 96, 3) := by decide +kernel
theorem dX6_cue_5 : decode cX6_cue 5 = .ok (.ifCond .eq 11, 3) := by decide +kernel
theorem dX6_cue_8 : decode cX6_cue 8 = .ok (.aload_n 0, 1) := by decide +kernel
theorem dX6_cue_9 : decode cX6_cue 9 = .ok (.iload_n 2, 1) := by decide +kernel
theorem dX6_cue_10 : decode cX6_cue 10 = .ok (.invokevirtual 100, 3) := by decide +kernel
theorem dX6_cue_13 : decode cX6_cue 13 = .ok (.ifCond .ne 9, 3) := by decide +kernel
theorem dX6_cue_16 : decode cX6_cue 16 = .ok (.aload_n 0, 1) := by decide +kernel
theorem dX6_cue_17 : decode cX6_cue 17 = .ok (.iconst 1, 1) := by decide +kernel
theorem dX6_cue_18 : decode cX6_cue 18 = .ok (.invokevirtual 92, 3) := by decide +kernel
theorem dX6_cue_21 : decode cX6_cue 21 = .ok (.ireturn, 1) := by decide +kernel
theorem dX6_cue_22 : decode cX6_cue 22 = .ok (.aload_n 0, 1) := by decide +kernel
theorem dX6_cue_23 : decode cX6_cue 23 = .ok (.invokevirtual 116, 3) := by decide +kernel
theorem dX6_cue_26 : decode cX6_cue 26 = .ok (.iconst 0, 1) := by decide +kernel
theorem dX6_cue_27 : decode cX6_cue 27 = .ok (.istore_n 3, 1) := by decide +kernel
theorem dX6_cue_28 : decode cX6_cue 28 = .ok (.iload_n 3, 1) := by decide +kernel
theorem dX6_cue_29 : decode cX6_cue 29 = .ok (.aload_n 0, 1) := by decide +kernel
theorem dX6_cue_30 : decode cX6_cue 30 = .ok (.getfield 106, 3) := by decide +kernel
theorem dX6_cue_33 : decode cX6_cue 33 = .ok (.if_icmp .ge 35, 3) := by decide +kernel
theorem dX6_cue_36 : decode cX6_cue 36 = .ok (.aload_n 0, 1) := by decide +kernel
theorem dX6_cue_37 : decode cX6_cue 37 = .ok (.getfield 50, 3) := by decide +kernel
theorem dX6_cue_40 : decode cX6_cue 40 = .ok (.iload_n 3, 1) := by decide +kernel
theorem dX6_cue_41 : decode cX6_cue 41 = .ok (.iaload, 1) := by decide +kernel
theorem dX6_cue_42 : decode cX6_cue 42 = .ok (.iload_n 2, 1) := by decide +kernel
theorem dX6_cue_43 : decode cX6_cue 43 = .ok (.if_icmp .ne 19, 3) := by decide +kernel
theorem dX6_cue_46 : decode cX6_cue 46 = .ok (.aload_n 0, 1) := by decide +kernel
theorem dX6_cue_47 : decode cX6_cue 47 = .ok (.iload_n 1, 1) := by decide +kernel
theorem dX6_cue_48 : decode cX6_cue 48 = .ok (.iload_n 3, 1) := by decide +kernel
theorem dX6_cue_49 : decode cX6_cue 49 = .ok (.invokevirtual 123, 3) := by decide +kernel
theorem dX6_cue_52 : decode cX6_cue 52 = .ok (.ifCond .lt 10, 3) := by decide +kernel
theorem dX6_cue_55 : decode cX6_cue 55 = .ok (.aload_n 0, 1) := by decide +kernel
theorem dX6_cue_56 : decode cX6_cue 56 = .ok (.iload_n 1, 1) := by decide +kernel
theorem dX6_cue_57 : decode cX6_cue 57 = .ok (.iload_n 3, 1) := by decide +kernel
theorem dX6_cue_58 : decode cX6_cue 58 = .ok (.invokevirtual 123, 3) := by decide +kernel
theorem dX6_cue_61 : decode cX6_cue 61 = .ok (.ireturn, 1) := by decide +kernel
theorem dX6_cue_62 : decode cX6_cue 62 = .ok (.iinc 3 1, 3) := by decide +kernel
theorem dX6_cue_65 : decode cX6_cue 65 = .ok (.goto (-37), 3) := by decide +kernel
theorem dX6_cue_68 : decode cX6_cue 68 = .ok (.aload_n 0, 1) := by decide +kernel
theorem dX6_cue_69 : decode cX6_cue 69 = .ok (.iconst 2, 1) := by decide +kernel
theorem dX6_cue_70 : decode cX6_cue 70 = .ok (.invokevirtual 92, 3) := by decide +kernel
theorem dX6_cue_73 : decode cX6_cue 73 = .ok (.ireturn, 1) := by decide +kernel
theorem dX6_key_0 : decode cX6_key 0 = .ok (.iload_n 1, 1) := by decide +kernel
theorem dX6_key_1 : decode cX6_key 1 = .ok (.bipush (-7), 2) := by decide +kernel
theorem dX6_key_3 : decode cX6_key 3 = .ok (.bipush 7, 2) := by decide +kernel
theorem dX6_key_5 : decode cX6_key 5 = .ok (.invokestatic 85, 3) := by decide +kernel
theorem dX6_key_8 : decode cX6_key 8 = .ok (.ifCond .ne 9, 3) := by decide +kernel
theorem dX6_key_11 : decode cX6_key 11 = .ok (.aload_n 0, 1) := by decide +kernel
theorem dX6_key_12 : decode cX6_key 12 = .ok (.iconst 1, 1) := by decide +kernel
theorem dX6_key_13 : decode cX6_key 13 = .ok (.invokevirtual 92, 3) := by decide +kernel
theorem dX6_key_16 : decode cX6_key 16 = .ok (.ireturn, 1) := by decide +kernel
theorem dX6_key_17 : decode cX6_key 17 = .ok (.aload_n 0, 1) := by decide +kernel
theorem dX6_key_18 : decode cX6_key 18 = .ok (.getfield 126, 3) := by decide +kernel
theorem dX6_key_21 : decode cX6_key 21 = .ok (.istore_n 2, 1) := by decide +kernel
theorem dX6_key_22 : decode cX6_key 22 = .ok (.aload_n 0, 1) := by decide +kernel
theorem dX6_key_23 : decode cX6_key 23 = .ok (.iload_n 1, 1) := by decide +kernel
theorem dX6_key_24 : decode cX6_key 24 = .ok (.putfield 126, 3) := by decide +kernel
theorem dX6_key_27 : decode cX6_key 27 = .ok (.iload_n 2, 1) := by decide +kernel
theorem dX6_key_28 : decode cX6_key 28 = .ok (.ireturn, 1) := by decide +kernel
theorem dX6_written_0 : decode cX6_written 0 = .ok (.aload_n 0, 1) := by decide +kernel
theorem dX6_written_1 : decode cX6_written 1 = .ok (.iload_n 1, 1) := by decide +kernel
theorem dX6_written_2 : decode cX6_written 2 = .ok (.invokevirtual 96, 3) := by decide +kernel
theorem dX6_written_5 : decode cX6_written 5 = .ok (.ifCond .ne 9, 3) := by decide +kernel
theorem dX6_written_8 : decode cX6_written 8 = .ok (.aload_n 0, 1) := by decide +kernel
theorem dX6_written_9 : decode cX6_written 9 = .ok (.iconst 1, 1) := by decide +kernel
theorem dX6_written_10 : decode cX6_written 10 = .ok (.invokevirtual 92, 3) := by decide +kernel
theorem dX6_written_13 : decode cX6_written 13 = .ok (.ireturn, 1) := by decide +kernel
theorem dX6_written_14 : decode cX6_written 14 = .ok (.aload_n 0, 1) := by decide +kernel
theorem dX6_written_15 : decode cX6_written 15 = .ok (.getfield 126, 3) := by decide +kernel
theorem dX6_written_18 : decode cX6_written 18 = .ok (.bipush 7, 2) := by decide +kernel
theorem dX6_written_20 : decode cX6_written 20 = .ok (.aload_n 0, 1) := by decide +kernel
theorem dX6_written_21 : decode cX6_written 21 = .ok (.getfield 32, 3) := by decide +kernel
theorem dX6_written_24 : decode cX6_written 24 = .ok (.iload_n 1, 1) := by decide +kernel
theorem dX6_written_25 : decode cX6_written 25 = .ok (.iaload, 1) := by decide +kernel
theorem dX6_written_26 : decode cX6_written 26 = .ok (.imul, 1) := by decide +kernel
theorem dX6_written_27 : decode cX6_written 27 = .ok (.iadd, 1) := by decide +kernel
theorem dX6_written_28 : decode cX6_written 28 = .ok (.istore_n 2, 1) := by decide +kernel
theorem dX6_written_29 : decode cX6_written 29 = .ok (.iload_n 2, 1) := by decide +kernel
theorem dX6_written_30 : decode cX6_written 30 = .ok (.iconst 5, 1) := by decide +kernel
theorem dX6_written_31 : decode cX6_written 31 = .ok (.if_icmp .le 9, 3) := by decide +kernel
theorem dX6_written_34 : decode cX6_written 34 = .ok (.iinc 2 (-12), 3) := by decide +kernel
theorem dX6_written_37 : decode cX6_written 37 = .ok (.goto (-8), 3) := by decide +kernel
theorem dX6_written_40 : decode cX6_written 40 = .ok (.iload_n 2, 1) := by decide +kernel
theorem dX6_written_41 : decode cX6_written 41 = .ok (.bipush (-6), 2) := by decide +kernel
theorem dX6_written_43 : decode cX6_written 43 = .ok (.if_icmp .ge 9, 3) := by decide +kernel
theorem dX6_written_46 : decode cX6_written 46 = .ok (.iinc 2 12, 3) := by decide +kernel
theorem dX6_written_49 : decode cX6_written 49 = .ok (.goto (-9), 3) := by decide +kernel
theorem dX6_written_52 : decode cX6_written 52 = .ok (.iload_n 2, 1) := by decide +kernel
theorem dX6_written_53 : decode cX6_written 53 = .ok (.ireturn, 1) := by decide +kernel
theorem dX6_due_0 : decode cX6_due 0 = .ok (.iload_n 1, 1) := by decide +kernel
theorem dX6_due_1 : decode cX6_due 1 = .ok (.iconst 1, 1) := by decide +kernel
theorem dX6_due_2 : decode cX6_due 2 = .ok (.bipush 20, 2) := by decide +kernel
theorem dX6_due_4 : decode cX6_due 4 = .ok (.invokestatic 85, 3) := by decide +kernel
theorem dX6_due_7 : decode cX6_due 7 = .ok (.ifCond .ne 9, 3) := by decide +kernel
theorem dX6_due_10 : decode cX6_due 10 = .ok (.aload_n 0, 1) := by decide +kernel
theorem dX6_due_11 : decode cX6_due 11 = .ok (.iconst 1, 1) := by decide +kernel
theorem dX6_due_12 : decode cX6_due 12 = .ok (.invokevirtual 92, 3) := by decide +kernel
theorem dX6_due_15 : decode cX6_due 15 = .ok (.ireturn, 1) := by decide +kernel
theorem dX6_due_16 : decode cX6_due 16 = .ok (.aload_n 0, 1) := by decide +kernel
theorem dX6_due_17 : decode cX6_due 17 = .ok (.getfield 7, 3) := by decide +kernel
theorem dX6_due_20 : decode cX6_due 20 = .ok (.istore_n 2, 1) := by decide +kernel
theorem dX6_due_21 : decode cX6_due 21 = .ok (.aload_n 0, 1) := by decide +kernel
theorem dX6_due_22 : decode cX6_due 22 = .ok (.iload_n 1, 1) := by decide +kernel
theorem dX6_due_23 : decode cX6_due 23 = .ok (.putfield 7, 3) := by decide +kernel
theorem dX6_due_26 : decode cX6_due 26 = .ok (.iload_n 2, 1) := by decide +kernel
theorem dX6_due_27 : decode cX6_due 27 = .ok (.ireturn, 1) := by decide +kernel
theorem dX6_paper_0 : decode cX6_paper 0 = .ok (.iload_n 1, 1) := by decide +kernel
theorem dX6_paper_1 : decode cX6_paper 1 = .ok (.bipush 21, 2) := by decide +kernel
theorem dX6_paper_3 : decode cX6_paper 3 = .ok (.bipush 60, 2) := by decide +kernel
theorem dX6_paper_5 : decode cX6_paper 5 = .ok (.invokestatic 85, 3) := by decide +kernel
theorem dX6_paper_8 : decode cX6_paper 8 = .ok (.ifCond .eq 13, 3) := by decide +kernel
theorem dX6_paper_11 : decode cX6_paper 11 = .ok (.iload_n 2, 1) := by decide +kernel
theorem dX6_paper_12 : decode cX6_paper 12 = .ok (.iconst 1, 1) := by decide +kernel
theorem dX6_paper_13 : decode cX6_paper 13 = .ok (.bipush 8, 2) := by decide +kernel
theorem dX6_paper_15 : decode cX6_paper 15 = .ok (.invokestatic 85, 3) := by decide +kernel
theorem dX6_paper_18 : decode cX6_paper 18 = .ok (.ifCond .ne 9, 3) := by decide +kernel
theorem dX6_paper_21 : decode cX6_paper 21 = .ok (.aload_n 0, 1) := by decide +kernel
theorem dX6_paper_22 : decode cX6_paper 22 = .ok (.iconst 1, 1) := by decide +kernel
theorem dX6_paper_23 : decode cX6_paper 23 = .ok (.invokevirtual 92, 3) := by decide +kernel
theorem dX6_paper_26 : decode cX6_paper 26 = .ok (.ireturn, 1) := by decide +kernel
theorem dX6_paper_27 : decode cX6_paper 27 = .ok (.aload_n 0, 1) := by decide +kernel
theorem dX6_paper_28 : decode cX6_paper 28 = .ok (.iload_n 1, 1) := by decide +kernel
theorem dX6_paper_29 : decode cX6_paper 29 = .ok (.putfield 13, 3) := by decide +kernel
theorem dX6_paper_32 : decode cX6_paper 32 = .ok (.aload_n 0, 1) := by decide +kernel
theorem dX6_paper_33 : decode cX6_paper 33 = .ok (.iload_n 2, 1) := by decide +kernel
theorem dX6_paper_34 : decode cX6_paper 34 = .ok (.putfield 16, 3) := by decide +kernel
theorem dX6_paper_37 : decode cX6_paper 37 = .ok (.iconst 1, 1) := by decide +kernel
theorem dX6_paper_38 : decode cX6_paper 38 = .ok (.ireturn, 1) := by decide +kernel
theorem dX6_need_0 : decode cX6_need 0 = .ok (.iload_n 1, 1) := by decide +kernel
theorem dX6_need_1 : decode cX6_need 1 = .ok (.iconst 0, 1) := by decide +kernel
theorem dX6_need_2 : decode cX6_need 2 = .ok (.bipush 60, 2) := by decide +kernel
theorem dX6_need_4 : decode cX6_need 4 = .ok (.invokestatic 85, 3) := by decide +kernel
theorem dX6_need_7 : decode cX6_need 7 = .ok (.ifCond .ne 9, 3) := by decide +kernel
theorem dX6_need_10 : decode cX6_need 10 = .ok (.aload_n 0, 1) := by decide +kernel
theorem dX6_need_11 : decode cX6_need 11 = .ok (.iconst 1, 1) := by decide +kernel
theorem dX6_need_12 : decode cX6_need 12 = .ok (.invokevirtual 92, 3) := by decide +kernel
theorem dX6_need_15 : decode cX6_need 15 = .ok (.ireturn, 1) := by decide +kernel
theorem dX6_need_16 : decode cX6_need 16 = .ok (.aload_n 0, 1) := by decide +kernel
theorem dX6_need_17 : decode cX6_need 17 = .ok (.getfield 19, 3) := by decide +kernel
theorem dX6_need_20 : decode cX6_need 20 = .ok (.istore_n 2, 1) := by decide +kernel
theorem dX6_need_21 : decode cX6_need 21 = .ok (.aload_n 0, 1) := by decide +kernel
theorem dX6_need_22 : decode cX6_need 22 = .ok (.iload_n 1, 1) := by decide +kernel
theorem dX6_need_23 : decode cX6_need 23 = .ok (.putfield 19, 3) := by decide +kernel
theorem dX6_need_26 : decode cX6_need 26 = .ok (.iload_n 2, 1) := by decide +kernel
theorem dX6_need_27 : decode cX6_need 27 = .ok (.ireturn, 1) := by decide +kernel
theorem dX6_systemsOf_0 : decode cX6_systemsOf 0 = .ok (.iconst 1, 1) := by decide +kernel
theorem dX6_systemsOf_1 : decode cX6_systemsOf 1 = .ok (.istore 4, 2) := by decide +kernel
theorem dX6_systemsOf_3 : decode cX6_systemsOf 3 = .ok (.iconst 0, 1) := by decide +kernel
theorem dX6_systemsOf_4 : decode cX6_systemsOf 4 = .ok (.istore 5, 2) := by decide +kernel
theorem dX6_systemsOf_6 : decode cX6_systemsOf 6 = .ok (.iload_n 2, 1) := by decide +kernel
theorem dX6_systemsOf_7 : decode cX6_systemsOf 7 = .ok (.istore 6, 2) := by decide +kernel
theorem dX6_systemsOf_9 : decode cX6_systemsOf 9 = .ok (.iload 6, 2) := by decide +kernel
theorem dX6_systemsOf_11 : decode cX6_systemsOf 11 = .ok (.iload_n 3, 1) := by decide +kernel
theorem dX6_systemsOf_12 : decode cX6_systemsOf 12 = .ok (.if_icmp .ge 68, 3) := by decide +kernel
theorem dX6_systemsOf_15 : decode cX6_systemsOf 15 = .ok (.iload 6, 2) := by decide +kernel
theorem dX6_systemsOf_17 : decode cX6_systemsOf 17 = .ok (.iload_n 2, 1) := by decide +kernel
theorem dX6_systemsOf_18 : decode cX6_systemsOf 18 = .ok (.if_icmp .ne 7, 3) := by decide +kernel
theorem dX6_systemsOf_21 : decode cX6_systemsOf 21 = .ok (.iconst 1, 1) := by decide +kernel
theorem dX6_systemsOf_22 : decode cX6_systemsOf 22 = .ok (.goto 4, 3) := by decide +kernel
theorem dX6_systemsOf_25 : decode cX6_systemsOf 25 = .ok (.iconst 0, 1) := by decide +kernel
theorem dX6_systemsOf_26 : decode cX6_systemsOf 26 = .ok (.istore 7, 2) := by decide +kernel
theorem dX6_systemsOf_28 : decode cX6_systemsOf 28 = .ok (.aload_n 0, 1) := by decide +kernel
theorem dX6_systemsOf_29 : decode cX6_systemsOf 29 = .ok (.iload_n 1, 1) := by decide +kernel
theorem dX6_systemsOf_30 : decode cX6_systemsOf 30 = .ok (.iload 6, 2) := by decide +kernel
theorem dX6_systemsOf_32 : decode cX6_systemsOf 32 = .ok (.iload 7, 2) := by decide +kernel
theorem dX6_systemsOf_34 : decode cX6_systemsOf 34 = .ok (.invokevirtual 129, 3) := by decide +kernel
theorem dX6_systemsOf_37 : decode cX6_systemsOf 37 = .ok (.istore 8, 2) := by decide +kernel
theorem dX6_systemsOf_39 : decode cX6_systemsOf 39 = .ok (.iload 5, 2) := by decide +kernel
theorem dX6_systemsOf_41 : decode cX6_systemsOf 41 = .ok (.iload 8, 2) := by decide +kernel
theorem dX6_systemsOf_43 : decode cX6_systemsOf 43 = .ok (.iadd, 1) := by decide +kernel
theorem dX6_systemsOf_44 : decode cX6_systemsOf 44 = .ok (.aload_n 0, 1) := by decide +kernel
theorem dX6_systemsOf_45 : decode cX6_systemsOf 45 = .ok (.getfield 13, 3) := by decide +kernel
theorem dX6_systemsOf_48 : decode cX6_systemsOf 48 = .ok (.if_icmp .le 19, 3) := by decide +kernel
theorem dX6_systemsOf_51 : decode cX6_systemsOf 51 = .ok (.iinc 4 1, 3) := by decide +kernel
theorem dX6_systemsOf_54 : decode cX6_systemsOf 54 = .ok (.iconst 0, 1) := by decide +kernel
theorem dX6_systemsOf_55 : decode cX6_systemsOf 55 = .ok (.istore 5, 2) := by decide +kernel
theorem dX6_systemsOf_57 : decode cX6_systemsOf 57 = .ok (.aload_n 0, 1) := by decide +kernel
theorem dX6_systemsOf_58 : decode cX6_systemsOf 58 = .ok (.iload_n 1, 1) := by decide +kernel
theorem dX6_systemsOf_59 : decode cX6_systemsOf 59 = .ok (.iload 6, 2) := by decide +kernel
theorem dX6_systemsOf_61 : decode cX6_systemsOf 61 = .ok (.iconst 1, 1) := by decide +kernel
theorem dX6_systemsOf_62 : decode cX6_systemsOf 62 = .ok (.invokevirtual 129, 3) := by decide +kernel
theorem dX6_systemsOf_65 : decode cX6_systemsOf 65 = .ok (.istore 8, 2) := by decide +kernel
theorem dX6_systemsOf_67 : decode cX6_systemsOf 67 = .ok (.iload 5, 2) := by decide +kernel
theorem dX6_systemsOf_69 : decode cX6_systemsOf 69 = .ok (.iload 8, 2) := by decide +kernel
theorem dX6_systemsOf_71 : decode cX6_systemsOf 71 = .ok (.iadd, 1) := by decide +kernel
theorem dX6_systemsOf_72 : decode cX6_systemsOf 72 = .ok (.istore 5, 2) := by decide +kernel
theorem dX6_systemsOf_74 : decode cX6_systemsOf 74 = .ok (.iinc 6 1, 3) := by decide +kernel
theorem dX6_systemsOf_77 : decode cX6_systemsOf 77 = .ok (.goto (-68), 3) := by decide +kernel
theorem dX6_systemsOf_80 : decode cX6_systemsOf 80 = .ok (.iload 4, 2) := by decide +kernel
theorem dX6_systemsOf_82 : decode cX6_systemsOf 82 = .ok (.ireturn, 1) := by decide +kernel
theorem dX6_widthOf_0 : decode cX6_widthOf 0 = .ok (.aload_n 0, 1) := by decide +kernel
theorem dX6_widthOf_1 : decode cX6_widthOf 1 = .ok (.iload_n 1, 1) := by decide +kernel
theorem dX6_widthOf_2 : decode cX6_widthOf 2 = .ok (.iload_n 2, 1) := by decide +kernel
theorem dX6_widthOf_3 : decode cX6_widthOf 3 = .ok (.invokevirtual 109, 3) := by decide +kernel
theorem dX6_widthOf_6 : decode cX6_widthOf 6 = .ok (.ifCond .eq 22, 3) := by decide +kernel
theorem dX6_widthOf_9 : decode cX6_widthOf 9 = .ok (.iload_n 3, 1) := by decide +kernel
theorem dX6_widthOf_10 : decode cX6_widthOf 10 = .ok (.ifCond .ne 12, 3) := by decide +kernel
theorem dX6_widthOf_13 : decode cX6_widthOf 13 = .ok (.aload_n 0, 1) := by decide +kernel
theorem dX6_widthOf_14 : decode cX6_widthOf 14 = .ok (.iload_n 1, 1) := by decide +kernel
theorem dX6_widthOf_15 : decode cX6_widthOf 15 = .ok (.iload_n 2, 1) := by decide +kernel
theorem dX6_widthOf_16 : decode cX6_widthOf 16 = .ok (.invokevirtual 113, 3) := by decide +kernel
theorem dX6_widthOf_19 : decode cX6_widthOf 19 = .ok (.ifCond .eq 7, 3) := by decide +kernel
theorem dX6_widthOf_22 : decode cX6_widthOf 22 = .ok (.iconst 4, 1) := by decide +kernel
theorem dX6_widthOf_23 : decode cX6_widthOf 23 = .ok (.goto 4, 3) := by decide +kernel
theorem dX6_widthOf_26 : decode cX6_widthOf 26 = .ok (.iconst 0, 1) := by decide +kernel
theorem dX6_widthOf_27 : decode cX6_widthOf 27 = .ok (.ireturn, 1) := by decide +kernel
theorem dX6_widthOf_28 : decode cX6_widthOf 28 = .ok (.iconst 2, 1) := by decide +kernel
theorem dX6_widthOf_29 : decode cX6_widthOf 29 = .ok (.aload_n 0, 1) := by decide +kernel
theorem dX6_widthOf_30 : decode cX6_widthOf 30 = .ok (.getfield 38, 3) := by decide +kernel
theorem dX6_widthOf_33 : decode cX6_widthOf 33 = .ok (.bipush 40, 2) := by decide +kernel
theorem dX6_widthOf_35 : decode cX6_widthOf 35 = .ok (.iload_n 1, 1) := by decide +kernel
theorem dX6_widthOf_36 : decode cX6_widthOf 36 = .ok (.imul, 1) := by decide +kernel
theorem dX6_widthOf_37 : decode cX6_widthOf 37 = .ok (.aload_n 0, 1) := by decide +kernel
theorem dX6_widthOf_38 : decode cX6_widthOf 38 = .ok (.getfield 50, 3) := by decide +kernel
theorem dX6_widthOf_41 : decode cX6_widthOf 41 = .ok (.iload_n 2, 1) := by decide +kernel
theorem dX6_widthOf_42 : decode cX6_widthOf 42 = .ok (.iaload, 1) := by decide +kernel
theorem dX6_widthOf_43 : decode cX6_widthOf 43 = .ok (.iadd, 1) := by decide +kernel
theorem dX6_widthOf_44 : decode cX6_widthOf 44 = .ok (.iaload, 1) := by decide +kernel
theorem dX6_widthOf_45 : decode cX6_widthOf 45 = .ok (.iadd, 1) := by decide +kernel
theorem dX6_widthOf_46 : decode cX6_widthOf 46 = .ok (.aload_n 0, 1) := by decide +kernel
theorem dX6_widthOf_47 : decode cX6_widthOf 47 = .ok (.iload_n 1, 1) := by decide +kernel
theorem dX6_widthOf_48 : decode cX6_widthOf 48 = .ok (.iload_n 2, 1) := by decide +kernel
theorem dX6_widthOf_49 : decode cX6_widthOf 49 = .ok (.invokevirtual 123, 3) := by decide +kernel
theorem dX6_widthOf_52 : decode cX6_widthOf 52 = .ok (.ifCond .lt 7, 3) := by decide +kernel
theorem dX6_widthOf_55 : decode cX6_widthOf 55 = .ok (.iconst 3, 1) := by decide +kernel
theorem dX6_widthOf_56 : decode cX6_widthOf 56 = .ok (.goto 4, 3) := by decide +kernel
theorem dX6_widthOf_59 : decode cX6_widthOf 59 = .ok (.iconst 0, 1) := by decide +kernel
theorem dX6_widthOf_60 : decode cX6_widthOf 60 = .ok (.iadd, 1) := by decide +kernel
theorem dX6_widthOf_61 : decode cX6_widthOf 61 = .ok (.ireturn, 1) := by decide +kernel
theorem dX6_freeAt_0 : decode cX6_freeAt 0 = .ok (.iconst 0, 1) := by decide +kernel
theorem dX6_freeAt_1 : decode cX6_freeAt 1 = .ok (.istore_n 3, 1) := by decide +kernel
theorem dX6_freeAt_2 : decode cX6_freeAt 2 = .ok (.iload_n 2, 1) := by decide +kernel
theorem dX6_freeAt_3 : decode cX6_freeAt 3 = .ok (.iconst 1, 1) := by decide +kernel
theorem dX6_freeAt_4 : decode cX6_freeAt 4 = .ok (.isub, 1) := by decide +kernel
theorem dX6_freeAt_5 : decode cX6_freeAt 5 = .ok (.istore 4, 2) := by decide +kernel
theorem dX6_freeAt_7 : decode cX6_freeAt 7 = .ok (.iload 4, 2) := by decide +kernel
theorem dX6_freeAt_9 : decode cX6_freeAt 9 = .ok (.ifCond .lt 34, 3) := by decide +kernel
theorem dX6_freeAt_12 : decode cX6_freeAt 12 = .ok (.aload_n 0, 1) := by decide +kernel
theorem dX6_freeAt_13 : decode cX6_freeAt 13 = .ok (.iload_n 1, 1) := by decide +kernel
theorem dX6_freeAt_14 : decode cX6_freeAt 14 = .ok (.iload 4, 2) := by decide +kernel
theorem dX6_freeAt_16 : decode cX6_freeAt 16 = .ok (.invokevirtual 109, 3) := by decide +kernel
theorem dX6_freeAt_19 : decode cX6_freeAt 19 = .ok (.ifCond .eq 24, 3) := by decide +kernel
theorem dX6_freeAt_22 : decode cX6_freeAt 22 = .ok (.iload_n 3, 1) := by decide +kernel
theorem dX6_freeAt_23 : decode cX6_freeAt 23 = .ok (.aload_n 0, 1) := by decide +kernel
theorem dX6_freeAt_24 : decode cX6_freeAt 24 = .ok (.getfield 22, 3) := by decide +kernel
theorem dX6_freeAt_27 : decode cX6_freeAt 27 = .ok (.aload_n 0, 1) := by decide +kernel
theorem dX6_freeAt_28 : decode cX6_freeAt 28 = .ok (.getfield 50, 3) := by decide +kernel
theorem dX6_freeAt_31 : decode cX6_freeAt 31 = .ok (.iload 4, 2) := by decide +kernel
theorem dX6_freeAt_33 : decode cX6_freeAt 33 = .ok (.iaload, 1) := by decide +kernel
theorem dX6_freeAt_34 : decode cX6_freeAt 34 = .ok (.iaload, 1) := by decide +kernel
theorem dX6_freeAt_35 : decode cX6_freeAt 35 = .ok (.iadd, 1) := by decide +kernel
theorem dX6_freeAt_36 : decode cX6_freeAt 36 = .ok (.istore_n 3, 1) := by decide +kernel
theorem dX6_freeAt_37 : decode cX6_freeAt 37 = .ok (.iinc 4 (-1), 3) := by decide +kernel
theorem dX6_freeAt_40 : decode cX6_freeAt 40 = .ok (.goto (-33), 3) := by decide +kernel
theorem dX6_freeAt_43 : decode cX6_freeAt 43 = .ok (.iload_n 2, 1) := by decide +kernel
theorem dX6_freeAt_44 : decode cX6_freeAt 44 = .ok (.istore 4, 2) := by decide +kernel
theorem dX6_freeAt_46 : decode cX6_freeAt 46 = .ok (.iload 4, 2) := by decide +kernel
theorem dX6_freeAt_48 : decode cX6_freeAt 48 = .ok (.aload_n 0, 1) := by decide +kernel
theorem dX6_freeAt_49 : decode cX6_freeAt 49 = .ok (.getfield 106, 3) := by decide +kernel
theorem dX6_freeAt_52 : decode cX6_freeAt 52 = .ok (.if_icmp .ge 34, 3) := by decide +kernel
theorem dX6_freeAt_55 : decode cX6_freeAt 55 = .ok (.aload_n 0, 1) := by decide +kernel
theorem dX6_freeAt_56 : decode cX6_freeAt 56 = .ok (.iload_n 1, 1) := by decide +kernel
theorem dX6_freeAt_57 : decode cX6_freeAt 57 = .ok (.iload 4, 2) := by decide +kernel
theorem dX6_freeAt_59 : decode cX6_freeAt 59 = .ok (.invokevirtual 109, 3) := by decide +kernel
theorem dX6_freeAt_62 : decode cX6_freeAt 62 = .ok (.ifCond .eq 24, 3) := by decide +kernel
theorem dX6_freeAt_65 : decode cX6_freeAt 65 = .ok (.iload_n 3, 1) := by decide +kernel
theorem dX6_freeAt_66 : decode cX6_freeAt 66 = .ok (.aload_n 0, 1) := by decide +kernel
theorem dX6_freeAt_67 : decode cX6_freeAt 67 = .ok (.getfield 22, 3) := by decide +kernel
theorem dX6_freeAt_70 : decode cX6_freeAt 70 = .ok (.aload_n 0, 1) := by decide +kernel
theorem dX6_freeAt_71 : decode cX6_freeAt 71 = .ok (.getfield 50, 3) := by decide +kernel
theorem dX6_freeAt_74 : decode cX6_freeAt 74 = .ok (.iload 4, 2) := by decide +kernel
theorem dX6_freeAt_76 : decode cX6_freeAt 76 = .ok (.iaload, 1) := by decide +kernel
theorem dX6_freeAt_77 : decode cX6_freeAt 77 = .ok (.iaload, 1) := by decide +kernel
theorem dX6_freeAt_78 : decode cX6_freeAt 78 = .ok (.iadd, 1) := by decide +kernel
theorem dX6_freeAt_79 : decode cX6_freeAt 79 = .ok (.istore_n 3, 1) := by decide +kernel
theorem dX6_freeAt_80 : decode cX6_freeAt 80 = .ok (.iinc 4 1, 3) := by decide +kernel
theorem dX6_freeAt_83 : decode cX6_freeAt 83 = .ok (.goto (-37), 3) := by decide +kernel
theorem dX6_freeAt_86 : decode cX6_freeAt 86 = .ok (.iload_n 3, 1) := by decide +kernel
theorem dX6_freeAt_87 : decode cX6_freeAt 87 = .ok (.ireturn, 1) := by decide +kernel
theorem dX6_isBad_0 : decode cX6_isBad 0 = .ok (.aload_n 0, 1) := by decide +kernel
theorem dX6_isBad_1 : decode cX6_isBad 1 = .ok (.iload_n 1, 1) := by decide +kernel
theorem dX6_isBad_2 : decode cX6_isBad 2 = .ok (.iload_n 2, 1) := by decide +kernel
theorem dX6_isBad_3 : decode cX6_isBad 3 = .ok (.invokevirtual 133, 3) := by decide +kernel
theorem dX6_isBad_6 : decode cX6_isBad 6 = .ok (.aload_n 0, 1) := by decide +kernel
theorem dX6_isBad_7 : decode cX6_isBad 7 = .ok (.getfield 29, 3) := by decide +kernel
theorem dX6_isBad_10 : decode cX6_isBad 10 = .ok (.iload_n 1, 1) := by decide +kernel
theorem dX6_isBad_11 : decode cX6_isBad 11 = .ok (.iaload, 1) := by decide +kernel
theorem dX6_isBad_12 : decode cX6_isBad 12 = .ok (.iconst 1, 1) := by decide +kernel
theorem dX6_isBad_13 : decode cX6_isBad 13 = .ok (.if_icmp .ne 12, 3) := by decide +kernel
theorem dX6_isBad_16 : decode cX6_isBad 16 = .ok (.aload_n 0, 1) := by decide +kernel
theorem dX6_isBad_17 : decode cX6_isBad 17 = .ok (.getfield 19, 3) := by decide +kernel
theorem dX6_isBad_20 : decode cX6_isBad 20 = .ok (.iconst 2, 1) := by decide +kernel
theorem dX6_isBad_21 : decode cX6_isBad 21 = .ok (.idiv, 1) := by decide +kernel
theorem dX6_isBad_22 : decode cX6_isBad 22 = .ok (.goto 7, 3) := by decide +kernel
theorem dX6_isBad_25 : decode cX6_isBad 25 = .ok (.aload_n 0, 1) := by decide +kernel
theorem dX6_isBad_26 : decode cX6_isBad 26 = .ok (.getfield 19, 3) := by decide +kernel
theorem dX6_isBad_29 : decode cX6_isBad 29 = .ok (.if_icmp .ge 7, 3) := by decide +kernel
theorem dX6_isBad_32 : decode cX6_isBad 32 = .ok (.iconst 1, 1) := by decide +kernel
theorem dX6_isBad_33 : decode cX6_isBad 33 = .ok (.goto 4, 3) := by decide +kernel
theorem dX6_isBad_36 : decode cX6_isBad 36 = .ok (.iconst 0, 1) := by decide +kernel
theorem dX6_isBad_37 : decode cX6_isBad 37 = .ok (.ireturn, 1) := by decide +kernel
theorem dX6_findPages_0 : decode cX6_findPages 0 = .ok (.aload_n 0, 1) := by decide +kernel
theorem dX6_findPages_1 : decode cX6_findPages 1 = .ok (.invokevirtual 116, 3) := by decide +kernel
theorem dX6_findPages_4 : decode cX6_findPages 4 = .ok (.aload_n 0, 1) := by decide +kernel
theorem dX6_findPages_5 : decode cX6_findPages 5 = .ok (.getfield 53, 3) := by decide +kernel
theorem dX6_findPages_8 : decode cX6_findPages 8 = .ok (.aload_n 0, 1) := by decide +kernel
theorem dX6_findPages_9 : decode cX6_findPages 9 = .ok (.getfield 106, 3) := by decide +kernel
theorem dX6_findPages_12 : decode cX6_findPages 12 = .ok (.iconst 0, 1) := by decide +kernel
theorem dX6_findPages_13 : decode cX6_findPages 13 = .ok (.iastore, 1) := by decide +kernel
theorem dX6_findPages_14 : decode cX6_findPages 14 = .ok (.aload_n 0, 1) := by decide +kernel
theorem dX6_findPages_15 : decode cX6_findPages 15 = .ok (.getfield 56, 3) := by decide +kernel
theorem dX6_findPages_18 : decode cX6_findPages 18 = .ok (.aload_n 0, 1) := by decide +kernel
theorem dX6_findPages_19 : decode cX6_findPages 19 = .ok (.getfield 106, 3) := by decide +kernel
theorem dX6_findPages_22 : decode cX6_findPages 22 = .ok (.iconst 0, 1) := by decide +kernel
theorem dX6_findPages_23 : decode cX6_findPages 23 = .ok (.iastore, 1) := by decide +kernel
theorem dX6_findPages_24 : decode cX6_findPages 24 = .ok (.aload_n 0, 1) := by decide +kernel
theorem dX6_findPages_25 : decode cX6_findPages 25 = .ok (.getfield 106, 3) := by decide +kernel
theorem dX6_findPages_28 : decode cX6_findPages 28 = .ok (.iconst 1, 1) := by decide +kernel
theorem dX6_findPages_29 : decode cX6_findPages 29 = .ok (.isub, 1) := by decide +kernel
theorem dX6_findPages_30 : decode cX6_findPages 30 = .ok (.istore_n 2, 1) := by decide +kernel
theorem dX6_findPages_31 : decode cX6_findPages 31 = .ok (.iload_n 2, 1) := by decide +kernel
theorem dX6_findPages_32 : decode cX6_findPages 32 = .ok (.ifCond .lt 167, 3) := by decide +kernel
theorem dX6_findPages_35 : decode cX6_findPages 35 = .ok (.aload_n 0, 1) := by decide +kernel
theorem dX6_findPages_36 : decode cX6_findPages 36 = .ok (.getfield 59, 3) := by decide +kernel
theorem dX6_findPages_39 : decode cX6_findPages 39 = .ok (.iload_n 2, 1) := by decide +kernel
theorem dX6_findPages_40 : decode cX6_findPages 40 = .ok (.iconst 0, 1) := by decide +kernel
theorem dX6_findPages_41 : decode cX6_findPages 41 = .ok (.iastore, 1) := by decide +kernel
theorem dX6_findPages_42 : decode cX6_findPages 42 = .ok (.iconst 1, 1) := by decide +kernel
theorem dX6_findPages_43 : decode cX6_findPages 43 = .ok (.istore_n 3, 1) := by decide +kernel
theorem dX6_findPages_44 : decode cX6_findPages 44 = .ok (.iload_n 2, 1) := by decide +kernel
theorem dX6_findPages_45 : decode cX6_findPages 45 = .ok (.iload_n 3, 1) := by decide +kernel
theorem dX6_findPages_46 : decode cX6_findPages 46 = .ok (.iadd, 1) := by decide +kernel
theorem dX6_findPages_47 : decode cX6_findPages 47 = .ok (.aload_n 0, 1) := by decide +kernel
theorem dX6_findPages_48 : decode cX6_findPages 48 = .ok (.getfield 106, 3) := by decide +kernel
theorem dX6_findPages_51 : decode cX6_findPages 51 = .ok (.if_icmp .gt 142, 3) := by decide +kernel
theorem dX6_findPages_54 : decode cX6_findPages 54 = .ok (.aload_n 0, 1) := by decide +kernel
theorem dX6_findPages_55 : decode cX6_findPages 55 = .ok (.iload_n 1, 1) := by decide +kernel
theorem dX6_findPages_56 : decode cX6_findPages 56 = .ok (.iload_n 2, 1) := by decide +kernel
theorem dX6_findPages_57 : decode cX6_findPages 57 = .ok (.iload_n 2, 1) := by decide +kernel
theorem dX6_findPages_58 : decode cX6_findPages 58 = .ok (.iload_n 3, 1) := by decide +kernel
theorem dX6_findPages_59 : decode cX6_findPages 59 = .ok (.iadd, 1) := by decide +kernel
theorem dX6_findPages_60 : decode cX6_findPages 60 = .ok (.invokevirtual 136, 3) := by decide +kernel
theorem dX6_findPages_63 : decode cX6_findPages 63 = .ok (.aload_n 0, 1) := by decide +kernel
theorem dX6_findPages_64 : decode cX6_findPages 64 = .ok (.getfield 16, 3) := by decide +kernel
theorem dX6_findPages_67 : decode cX6_findPages 67 = .ok (.if_icmp .gt 126, 3) := by decide +kernel
theorem dX6_findPages_70 : decode cX6_findPages 70 = .ok (.aload_n 0, 1) := by decide +kernel
theorem dX6_findPages_71 : decode cX6_findPages 71 = .ok (.getfield 53, 3) := by decide +kernel
theorem dX6_findPages_74 : decode cX6_findPages 74 = .ok (.iload_n 2, 1) := by decide +kernel
theorem dX6_findPages_75 : decode cX6_findPages 75 = .ok (.iload_n 3, 1) := by decide +kernel
theorem dX6_findPages_76 : decode cX6_findPages 76 = .ok (.iadd, 1) := by decide +kernel
theorem dX6_findPages_77 : decode cX6_findPages 77 = .ok (.iaload, 1) := by decide +kernel
theorem dX6_findPages_78 : decode cX6_findPages 78 = .ok (.iload_n 2, 1) := by decide +kernel
theorem dX6_findPages_79 : decode cX6_findPages 79 = .ok (.iload_n 3, 1) := by decide +kernel
theorem dX6_findPages_80 : decode cX6_findPages 80 = .ok (.iadd, 1) := by decide +kernel
theorem dX6_findPages_81 : decode cX6_findPages 81 = .ok (.aload_n 0, 1) := by decide +kernel
theorem dX6_findPages_82 : decode cX6_findPages 82 = .ok (.getfield 106, 3) := by decide +kernel
theorem dX6_findPages_85 : decode cX6_findPages 85 = .ok (.if_icmp .ge 18, 3) := by decide +kernel
theorem dX6_findPages_88 : decode cX6_findPages 88 = .ok (.aload_n 0, 1) := by decide +kernel
theorem dX6_findPages_89 : decode cX6_findPages 89 = .ok (.iload_n 1, 1) := by decide +kernel
theorem dX6_findPages_90 : decode cX6_findPages 90 = .ok (.iload_n 2, 1) := by decide +kernel
theorem dX6_findPages_91 : decode cX6_findPages 91 = .ok (.iload_n 3, 1) := by decide +kernel
theorem dX6_findPages_92 : decode cX6_findPages 92 = .ok (.iadd, 1) := by decide +kernel
theorem dX6_findPages_93 : decode cX6_findPages 93 = .ok (.invokevirtual 140, 3) := by decide +kernel
theorem dX6_findPages_96 : decode cX6_findPages 96 = .ok (.ifCond .eq 7, 3) := by decide +kernel
theorem dX6_findPages_99 : decode cX6_findPages 99 = .ok (.iconst 1, 1) := by decide +kernel
theorem dX6_findPages_100 : decode cX6_findPages 100 = .ok (.goto 4, 3) := by decide +kernel
theorem dX6_findPages_103 : decode cX6_findPages 103 = .ok (.iconst 0, 1) := by decide +kernel
theorem dX6_findPages_104 : decode cX6_findPages 104 = .ok (.iadd, 1) := by decide +kernel
theorem dX6_findPages_105 : decode cX6_findPages 105 = .ok (.istore 4, 2) := by decide +kernel
theorem dX6_findPages_107 : decode cX6_findPages 107 = .ok (.aload_n 0, 1) := by decide +kernel
theorem dX6_findPages_108 : decode cX6_findPages 108 = .ok (.getfield 56, 3) := by decide +kernel
theorem dX6_findPages_111 : decode cX6_findPages 111 = .ok (.iload_n 2, 1) := by decide +kernel
theorem dX6_findPages_112 : decode cX6_findPages 112 = .ok (.iload_n 3, 1) := by decide +kernel
theorem dX6_findPages_113 : decode cX6_findPages 113 = .ok (.iadd, 1) := by decide +kernel
theorem dX6_findPages_114 : decode cX6_findPages 114 = .ok (.iaload, 1) := by decide +kernel
theorem dX6_findPages_115 : decode cX6_findPages 115 = .ok (.iconst 1, 1) := by decide +kernel
theorem dX6_findPages_116 : decode cX6_findPages 116 = .ok (.iadd, 1) := by decide +kernel
theorem dX6_findPages_117 : decode cX6_findPages 117 = .ok (.istore 5, 2) := by decide +kernel
theorem dX6_findPages_119 : decode cX6_findPages 119 = .ok (.aload_n 0, 1) := by decide +kernel
theorem dX6_findPages_120 : decode cX6_findPages 120 = .ok (.getfield 59, 3) := by decide +kernel
theorem dX6_findPages_123 : decode cX6_findPages 123 = .ok (.iload_n 2, 1) := by decide +kernel
theorem dX6_findPages_124 : decode cX6_findPages 124 = .ok (.iaload, 1) := by decide +kernel
theorem dX6_findPages_125 : decode cX6_findPages 125 = .ok (.ifCond .le 39, 3) := by decide +kernel
theorem dX6_findPages_128 : decode cX6_findPages 128 = .ok (.iload 4, 2) := by decide +kernel
theorem dX6_findPages_130 : decode cX6_findPages 130 = .ok (.aload_n 0, 1) := by decide +kernel
theorem dX6_findPages_131 : decode cX6_findPages 131 = .ok (.getfield 53, 3) := by decide +kernel
theorem dX6_findPages_134 : decode cX6_findPages 134 = .ok (.iload_n 2, 1) := by decide +kernel
theorem dX6_findPages_135 : decode cX6_findPages 135 = .ok (.iaload, 1) := by decide +kernel
theorem dX6_findPages_136 : decode cX6_findPages 136 = .ok (.if_icmp .gt 51, 3) := by decide +kernel
theorem dX6_findPages_139 : decode cX6_findPages 139 = .ok (.iload 4, 2) := by decide +kernel
theorem dX6_findPages_141 : decode cX6_findPages 141 = .ok (.aload_n 0, 1) := by decide +kernel
theorem dX6_findPages_142 : decode cX6_findPages 142 = .ok (.getfield 53, 3) := by decide +kernel
theorem dX6_findPages_145 : decode cX6_findPages 145 = .ok (.iload_n 2, 1) := by decide +kernel
theorem dX6_findPages_146 : decode cX6_findPages 146 = .ok (.iaload, 1) := by decide +kernel
theorem dX6_findPages_147 : decode cX6_findPages 147 = .ok (.if_icmp .ne 17, 3) := by decide +kernel
theorem dX6_findPages_150 : decode cX6_findPages 150 = .ok (.iload 5, 2) := by decide +kernel
theorem dX6_findPages_152 : decode cX6_findPages 152 = .ok (.aload_n 0, 1) := by decide +kernel
theorem dX6_findPages_153 : decode cX6_findPages 153 = .ok (.getfield 56, 3) := by decide +kernel
theorem dX6_findPages_156 : decode cX6_findPages 156 = .ok (.iload_n 2, 1) := by decide +kernel
theorem dX6_findPages_157 : decode cX6_findPages 157 = .ok (.iaload, 1) := by decide +kernel
theorem dX6_findPages_158 : decode cX6_findPages 158 = .ok (.if_icmp .lt 6, 3) := by decide +kernel
theorem dX6_findPages_161 : decode cX6_findPages 161 = .ok (.goto 26, 3) := by decide +kernel
theorem dX6_findPages_164 : decode cX6_findPages 164 = .ok (.aload_n 0, 1) := by decide +kernel
theorem dX6_findPages_165 : decode cX6_findPages 165 = .ok (.getfield 59, 3) := by decide +kernel
theorem dX6_findPages_168 : decode cX6_findPages 168 = .ok (.iload_n 2, 1) := by decide +kernel
theorem dX6_findPages_169 : decode cX6_findPages 169 = .ok (.iload_n 3, 1) := by decide +kernel
theorem dX6_findPages_170 : decode cX6_findPages 170 = .ok (.iastore, 1) := by decide +kernel
theorem dX6_findPages_171 : decode cX6_findPages 171 = .ok (.aload_n 0, 1) := by decide +kernel
theorem dX6_findPages_172 : decode cX6_findPages 172 = .ok (.getfield 53, 3) := by decide +kernel
theorem dX6_findPages_175 : decode cX6_findPages 175 = .ok (.iload_n 2, 1) := by decide +kernel
theorem dX6_findPages_176 : decode cX6_findPages 176 = .ok (.iload 4, 2) := by decide +kernel
theorem dX6_findPages_178 : decode cX6_findPages 178 = .ok (.iastore, 1) := by decide +kernel
theorem dX6_findPages_179 : decode cX6_findPages 179 = .ok (.aload_n 0, 1) := by decide +kernel
theorem dX6_findPages_180 : decode cX6_findPages 180 = .ok (.getfield 56, 3) := by decide +kernel
theorem dX6_findPages_183 : decode cX6_findPages 183 = .ok (.iload_n 2, 1) := by decide +kernel
theorem dX6_findPages_184 : decode cX6_findPages 184 = .ok (.iload 5, 2) := by decide +kernel
theorem dX6_findPages_186 : decode cX6_findPages 186 = .ok (.iastore, 1) := by decide +kernel
theorem dX6_findPages_187 : decode cX6_findPages 187 = .ok (.iinc 3 1, 3) := by decide +kernel
theorem dX6_findPages_190 : decode cX6_findPages 190 = .ok (.goto (-146), 3) := by decide +kernel
theorem dX6_findPages_193 : decode cX6_findPages 193 = .ok (.iinc 2 (-1), 3) := by decide +kernel
theorem dX6_findPages_196 : decode cX6_findPages 196 = .ok (.goto (-165), 3) := by decide +kernel
theorem dX6_findPages_199 : decode cX6_findPages 199 = .ok (.return_, 1) := by decide +kernel
theorem dX6_pages_0 : decode cX6_pages 0 = .ok (.aload_n 0, 1) := by decide +kernel
theorem dX6_pages_1 : decode cX6_pages 1 = .ok (.iload_n 1, 1) := by decide +kernel
theorem dX6_pages_2 : decode cX6_pages 2 = .ok (.invokevirtual 96, 3) := by decide +kernel
theorem dX6_pages_5 : decode cX6_pages 5 = .ok (.ifCond .eq 12, 3) := by decide +kernel
theorem dX6_pages_8 : decode cX6_pages 8 = .ok (.iload_n 2, 1) := by decide +kernel
theorem dX6_pages_9 : decode cX6_pages 9 = .ok (.iconst 0, 1) := by decide +kernel
theorem dX6_pages_10 : decode cX6_pages 10 = .ok (.iconst 1, 1) := by decide +kernel
theorem dX6_pages_11 : decode cX6_pages 11 = .ok (.invokestatic 85, 3) := by decide +kernel
theorem dX6_pages_14 : decode cX6_pages 14 = .ok (.ifCond .ne 9, 3) := by decide +kernel
theorem dX6_pages_17 : decode cX6_pages 17 = .ok (.aload_n 0, 1) := by decide +kernel
theorem dX6_pages_18 : decode cX6_pages 18 = .ok (.iconst 1, 1) := by decide +kernel
theorem dX6_pages_19 : decode cX6_pages 19 = .ok (.invokevirtual 92, 3) := by decide +kernel
theorem dX6_pages_22 : decode cX6_pages 22 = .ok (.ireturn, 1) := by decide +kernel
theorem dX6_pages_23 : decode cX6_pages 23 = .ok (.aload_n 0, 1) := by decide +kernel
theorem dX6_pages_24 : decode cX6_pages 24 = .ok (.iload_n 1, 1) := by decide +kernel
theorem dX6_pages_25 : decode cX6_pages 25 = .ok (.invokevirtual 143, 3) := by decide +kernel
theorem dX6_pages_28 : decode cX6_pages 28 = .ok (.aload_n 0, 1) := by decide +kernel
theorem dX6_pages_29 : decode cX6_pages 29 = .ok (.getfield 106, 3) := by decide +kernel
theorem dX6_pages_32 : decode cX6_pages 32 = .ok (.ifCond .ne 9, 3) := by decide +kernel
theorem dX6_pages_35 : decode cX6_pages 35 = .ok (.aload_n 0, 1) := by decide +kernel
theorem dX6_pages_36 : decode cX6_pages 36 = .ok (.iconst 2, 1) := by decide +kernel
theorem dX6_pages_37 : decode cX6_pages 37 = .ok (.invokevirtual 92, 3) := by decide +kernel
theorem dX6_pages_40 : decode cX6_pages 40 = .ok (.ireturn, 1) := by decide +kernel
theorem dX6_pages_41 : decode cX6_pages 41 = .ok (.iload_n 2, 1) := by decide +kernel
theorem dX6_pages_42 : decode cX6_pages 42 = .ok (.ifCond .ne 12, 3) := by decide +kernel
theorem dX6_pages_45 : decode cX6_pages 45 = .ok (.aload_n 0, 1) := by decide +kernel
theorem dX6_pages_46 : decode cX6_pages 46 = .ok (.getfield 56, 3) := by decide +kernel
theorem dX6_pages_49 : decode cX6_pages 49 = .ok (.iconst 0, 1) := by decide +kernel
theorem dX6_pages_50 : decode cX6_pages 50 = .ok (.iaload, 1) := by decide +kernel
theorem dX6_pages_51 : decode cX6_pages 51 = .ok (.goto 9, 3) := by decide +kernel
theorem dX6_pages_54 : decode cX6_pages 54 = .ok (.aload_n 0, 1) := by decide +kernel
theorem dX6_pages_55 : decode cX6_pages 55 = .ok (.getfield 53, 3) := by decide +kernel
theorem dX6_pages_58 : decode cX6_pages 58 = .ok (.iconst 0, 1) := by decide +kernel
theorem dX6_pages_59 : decode cX6_pages 59 = .ok (.iaload, 1) := by decide +kernel
theorem dX6_pages_60 : decode cX6_pages 60 = .ok (.ireturn, 1) := by decide +kernel
theorem dX6_pageAt_0 : decode cX6_pageAt 0 = .ok (.aload_n 0, 1) := by decide +kernel
theorem dX6_pageAt_1 : decode cX6_pageAt 1 = .ok (.iload_n 1, 1) := by decide +kernel
theorem dX6_pageAt_2 : decode cX6_pageAt 2 = .ok (.invokevirtual 143, 3) := by decide +kernel
theorem dX6_pageAt_5 : decode cX6_pageAt 5 = .ok (.iconst 0, 1) := by decide +kernel
theorem dX6_pageAt_6 : decode cX6_pageAt 6 = .ok (.istore_n 3, 1) := by decide +kernel
theorem dX6_pageAt_7 : decode cX6_pageAt 7 = .ok (.iconst 0, 1) := by decide +kernel
theorem dX6_pageAt_8 : decode cX6_pageAt 8 = .ok (.istore 4, 2) := by decide +kernel
theorem dX6_pageAt_10 : decode cX6_pageAt 10 = .ok (.iload 4, 2) := by decide +kernel
theorem dX6_pageAt_12 : decode cX6_pageAt 12 = .ok (.iload_n 2, 1) := by decide +kernel
theorem dX6_pageAt_13 : decode cX6_pageAt 13 = .ok (.if_icmp .ge 26, 3) := by decide +kernel
theorem dX6_pageAt_16 : decode cX6_pageAt 16 = .ok (.iload_n 3, 1) := by decide +kernel
theorem dX6_pageAt_17 : decode cX6_pageAt 17 = .ok (.aload_n 0, 1) := by decide +kernel
theorem dX6_pageAt_18 : decode cX6_pageAt 18 = .ok (.getfield 106, 3) := by decide +kernel
theorem dX6_pageAt_21 : decode cX6_pageAt 21 = .ok (.if_icmp .ge 18, 3) := by decide +kernel
theorem dX6_pageAt_24 : decode cX6_pageAt 24 = .ok (.iload_n 3, 1) := by decide +kernel
theorem dX6_pageAt_25 : decode cX6_pageAt 25 = .ok (.aload_n 0, 1) := by decide +kernel
theorem dX6_pageAt_26 : decode cX6_pageAt 26 = .ok (.getfield 59, 3) := by decide +kernel
theorem dX6_pageAt_29 : decode cX6_pageAt 29 = .ok (.iload_n 3, 1) := by decide +kernel
theorem dX6_pageAt_30 : decode cX6_pageAt 30 = .ok (.iaload, 1) := by decide +kernel
theorem dX6_pageAt_31 : decode cX6_pageAt 31 = .ok (.iadd, 1) := by decide +kernel
theorem dX6_pageAt_32 : decode cX6_pageAt 32 = .ok (.istore_n 3, 1) := by decide +kernel
theorem dX6_pageAt_33 : decode cX6_pageAt 33 = .ok (.iinc 4 1, 3) := by decide +kernel
theorem dX6_pageAt_36 : decode cX6_pageAt 36 = .ok (.goto (-26), 3) := by decide +kernel
theorem dX6_pageAt_39 : decode cX6_pageAt 39 = .ok (.iload_n 3, 1) := by decide +kernel
theorem dX6_pageAt_40 : decode cX6_pageAt 40 = .ok (.aload_n 0, 1) := by decide +kernel
theorem dX6_pageAt_41 : decode cX6_pageAt 41 = .ok (.getfield 106, 3) := by decide +kernel
theorem dX6_pageAt_44 : decode cX6_pageAt 44 = .ok (.if_icmp .ge 7, 3) := by decide +kernel
theorem dX6_pageAt_47 : decode cX6_pageAt 47 = .ok (.iload_n 3, 1) := by decide +kernel
theorem dX6_pageAt_48 : decode cX6_pageAt 48 = .ok (.goto 4, 3) := by decide +kernel
theorem dX6_pageAt_51 : decode cX6_pageAt 51 = .ok (.iconst (-1), 1) := by decide +kernel
theorem dX6_pageAt_52 : decode cX6_pageAt 52 = .ok (.ireturn, 1) := by decide +kernel
theorem dX6_page_0 : decode cX6_page 0 = .ok (.aload_n 0, 1) := by decide +kernel
theorem dX6_page_1 : decode cX6_page 1 = .ok (.iload_n 1, 1) := by decide +kernel
theorem dX6_page_2 : decode cX6_page 2 = .ok (.invokevirtual 96, 3) := by decide +kernel
theorem dX6_page_5 : decode cX6_page 5 = .ok (.ifCond .eq 7, 3) := by decide +kernel
theorem dX6_page_8 : decode cX6_page 8 = .ok (.iload_n 2, 1) := by decide +kernel
theorem dX6_page_9 : decode cX6_page 9 = .ok (.ifCond .ge 9, 3) := by decide +kernel
theorem dX6_page_12 : decode cX6_page 12 = .ok (.aload_n 0, 1) := by decide +kernel
theorem dX6_page_13 : decode cX6_page 13 = .ok (.iconst 1, 1) := by decide +kernel
theorem dX6_page_14 : decode cX6_page 14 = .ok (.invokevirtual 92, 3) := by decide +kernel
theorem dX6_page_17 : decode cX6_page 17 = .ok (.ireturn, 1) := by decide +kernel
theorem dX6_page_18 : decode cX6_page 18 = .ok (.aload_n 0, 1) := by decide +kernel
theorem dX6_page_19 : decode cX6_page 19 = .ok (.iload_n 1, 1) := by decide +kernel
theorem dX6_page_20 : decode cX6_page 20 = .ok (.iload_n 2, 1) := by decide +kernel
theorem dX6_page_21 : decode cX6_page 21 = .ok (.invokevirtual 147, 3) := by decide +kernel
theorem dX6_page_24 : decode cX6_page 24 = .ok (.istore_n 3, 1) := by decide +kernel
theorem dX6_page_25 : decode cX6_page 25 = .ok (.iload_n 3, 1) := by decide +kernel
theorem dX6_page_26 : decode cX6_page 26 = .ok (.ifCond .ge 11, 3) := by decide +kernel
theorem dX6_page_29 : decode cX6_page 29 = .ok (.aload_n 0, 1) := by decide +kernel
theorem dX6_page_30 : decode cX6_page 30 = .ok (.iconst 2, 1) := by decide +kernel
theorem dX6_page_31 : decode cX6_page 31 = .ok (.invokevirtual 92, 3) := by decide +kernel
theorem dX6_page_34 : decode cX6_page 34 = .ok (.goto 9, 3) := by decide +kernel
theorem dX6_page_37 : decode cX6_page 37 = .ok (.aload_n 0, 1) := by decide +kernel
theorem dX6_page_38 : decode cX6_page 38 = .ok (.getfield 50, 3) := by decide +kernel
theorem dX6_page_41 : decode cX6_page 41 = .ok (.iload_n 3, 1) := by decide +kernel
theorem dX6_page_42 : decode cX6_page 42 = .ok (.iaload, 1) := by decide +kernel
theorem dX6_page_43 : decode cX6_page 43 = .ok (.ireturn, 1) := by decide +kernel
theorem dX6_free_0 : decode cX6_free 0 = .ok (.aload_n 0, 1) := by decide +kernel
theorem dX6_free_1 : decode cX6_free 1 = .ok (.iload_n 1, 1) := by decide +kernel
theorem dX6_free_2 : decode cX6_free 2 = .ok (.invokevirtual 96, 3) := by decide +kernel
theorem dX6_free_5 : decode cX6_free 5 = .ok (.ifCond .eq 7, 3) := by decide +kernel
theorem dX6_free_8 : decode cX6_free 8 = .ok (.iload_n 2, 1) := by decide +kernel
theorem dX6_free_9 : decode cX6_free 9 = .ok (.ifCond .ge 9, 3) := by decide +kernel
theorem dX6_free_12 : decode cX6_free 12 = .ok (.aload_n 0, 1) := by decide +kernel
theorem dX6_free_13 : decode cX6_free 13 = .ok (.iconst 1, 1) := by decide +kernel
theorem dX6_free_14 : decode cX6_free 14 = .ok (.invokevirtual 92, 3) := by decide +kernel
theorem dX6_free_17 : decode cX6_free 17 = .ok (.ireturn, 1) := by decide +kernel
theorem dX6_free_18 : decode cX6_free 18 = .ok (.aload_n 0, 1) := by decide +kernel
theorem dX6_free_19 : decode cX6_free 19 = .ok (.iload_n 1, 1) := by decide +kernel
theorem dX6_free_20 : decode cX6_free 20 = .ok (.iload_n 2, 1) := by decide +kernel
theorem dX6_free_21 : decode cX6_free 21 = .ok (.invokevirtual 147, 3) := by decide +kernel
theorem dX6_free_24 : decode cX6_free 24 = .ok (.istore_n 3, 1) := by decide +kernel
theorem dX6_free_25 : decode cX6_free 25 = .ok (.iload_n 3, 1) := by decide +kernel
theorem dX6_free_26 : decode cX6_free 26 = .ok (.ifCond .lt 18, 3) := by decide +kernel
theorem dX6_free_29 : decode cX6_free 29 = .ok (.iload_n 3, 1) := by decide +kernel
theorem dX6_free_30 : decode cX6_free 30 = .ok (.aload_n 0, 1) := by decide +kernel
theorem dX6_free_31 : decode cX6_free 31 = .ok (.getfield 59, 3) := by decide +kernel
theorem dX6_free_34 : decode cX6_free 34 = .ok (.iload_n 3, 1) := by decide +kernel
theorem dX6_free_35 : decode cX6_free 35 = .ok (.iaload, 1) := by decide +kernel
theorem dX6_free_36 : decode cX6_free 36 = .ok (.iadd, 1) := by decide +kernel
theorem dX6_free_37 : decode cX6_free 37 = .ok (.aload_n 0, 1) := by decide +kernel
theorem dX6_free_38 : decode cX6_free 38 = .ok (.getfield 106, 3) := by decide +kernel
theorem dX6_free_41 : decode cX6_free 41 = .ok (.if_icmp .ne 11, 3) := by decide +kernel
theorem dX6_free_44 : decode cX6_free 44 = .ok (.aload_n 0, 1) := by decide +kernel
theorem dX6_free_45 : decode cX6_free 45 = .ok (.iconst 2, 1) := by decide +kernel
theorem dX6_free_46 : decode cX6_free 46 = .ok (.invokevirtual 92, 3) := by decide +kernel
theorem dX6_free_49 : decode cX6_free 49 = .ok (.goto 16, 3) := by decide +kernel
theorem dX6_free_52 : decode cX6_free 52 = .ok (.aload_n 0, 1) := by decide +kernel
theorem dX6_free_53 : decode cX6_free 53 = .ok (.iload_n 1, 1) := by decide +kernel
theorem dX6_free_54 : decode cX6_free 54 = .ok (.iload_n 3, 1) := by decide +kernel
theorem dX6_free_55 : decode cX6_free 55 = .ok (.aload_n 0, 1) := by decide +kernel
theorem dX6_free_56 : decode cX6_free 56 = .ok (.getfield 59, 3) := by decide +kernel
theorem dX6_free_59 : decode cX6_free 59 = .ok (.iload_n 3, 1) := by decide +kernel
theorem dX6_free_60 : decode cX6_free 60 = .ok (.iaload, 1) := by decide +kernel
theorem dX6_free_61 : decode cX6_free 61 = .ok (.iadd, 1) := by decide +kernel
theorem dX6_free_62 : decode cX6_free 62 = .ok (.invokevirtual 133, 3) := by decide +kernel
theorem dX6_free_65 : decode cX6_free 65 = .ok (.ireturn, 1) := by decide +kernel
theorem dX6_systems_0 : decode cX6_systems 0 = .ok (.aload_n 0, 1) := by decide +kernel
theorem dX6_systems_1 : decode cX6_systems 1 = .ok (.iload_n 1, 1) := by decide +kernel
theorem dX6_systems_2 : decode cX6_systems 2 = .ok (.invokevirtual 96, 3) := by decide +kernel
theorem dX6_systems_5 : decode cX6_systems 5 = .ok (.ifCond .eq 7, 3) := by decide +kernel
theorem dX6_systems_8 : decode cX6_systems 8 = .ok (.iload_n 2, 1) := by decide +kernel
theorem dX6_systems_9 : decode cX6_systems 9 = .ok (.ifCond .ge 9, 3) := by decide +kernel
theorem dX6_systems_12 : decode cX6_systems 12 = .ok (.aload_n 0, 1) := by decide +kernel
theorem dX6_systems_13 : decode cX6_systems 13 = .ok (.iconst 1, 1) := by decide +kernel
theorem dX6_systems_14 : decode cX6_systems 14 = .ok (.invokevirtual 92, 3) := by decide +kernel
theorem dX6_systems_17 : decode cX6_systems 17 = .ok (.ireturn, 1) := by decide +kernel
theorem dX6_systems_18 : decode cX6_systems 18 = .ok (.aload_n 0, 1) := by decide +kernel
theorem dX6_systems_19 : decode cX6_systems 19 = .ok (.iload_n 1, 1) := by decide +kernel
theorem dX6_systems_20 : decode cX6_systems 20 = .ok (.iload_n 2, 1) := by decide +kernel
theorem dX6_systems_21 : decode cX6_systems 21 = .ok (.invokevirtual 147, 3) := by decide +kernel
theorem dX6_systems_24 : decode cX6_systems 24 = .ok (.istore_n 3, 1) := by decide +kernel
theorem dX6_systems_25 : decode cX6_systems 25 = .ok (.iload_n 3, 1) := by decide +kernel
theorem dX6_systems_26 : decode cX6_systems 26 = .ok (.ifCond .ge 11, 3) := by decide +kernel
theorem dX6_systems_29 : decode cX6_systems 29 = .ok (.aload_n 0, 1) := by decide +kernel
theorem dX6_systems_30 : decode cX6_systems 30 = .ok (.iconst 2, 1) := by decide +kernel
theorem dX6_systems_31 : decode cX6_systems 31 = .ok (.invokevirtual 92, 3) := by decide +kernel
theorem dX6_systems_34 : decode cX6_systems 34 = .ok (.goto 17, 3) := by decide +kernel
theorem dX6_systems_37 : decode cX6_systems 37 = .ok (.aload_n 0, 1) := by decide +kernel
theorem dX6_systems_38 : decode cX6_systems 38 = .ok (.iload_n 1, 1) := by decide +kernel
theorem dX6_systems_39 : decode cX6_systems 39 = .ok (.iload_n 3, 1) := by decide +kernel
theorem dX6_systems_40 : decode cX6_systems 40 = .ok (.iload_n 3, 1) := by decide +kernel
theorem dX6_systems_41 : decode cX6_systems 41 = .ok (.aload_n 0, 1) := by decide +kernel
theorem dX6_systems_42 : decode cX6_systems 42 = .ok (.getfield 59, 3) := by decide +kernel
theorem dX6_systems_45 : decode cX6_systems 45 = .ok (.iload_n 3, 1) := by decide +kernel
theorem dX6_systems_46 : decode cX6_systems 46 = .ok (.iaload, 1) := by decide +kernel
theorem dX6_systems_47 : decode cX6_systems 47 = .ok (.iadd, 1) := by decide +kernel
theorem dX6_systems_48 : decode cX6_systems 48 = .ok (.invokevirtual 136, 3) := by decide +kernel
theorem dX6_systems_51 : decode cX6_systems 51 = .ok (.ireturn, 1) := by decide +kernel
theorem dX6_lay_0 : decode cX6_lay 0 = .ok (.aload_n 0, 1) := by decide +kernel
theorem dX6_lay_1 : decode cX6_lay 1 = .ok (.iload_n 1, 1) := by decide +kernel
theorem dX6_lay_2 : decode cX6_lay 2 = .ok (.invokevirtual 96, 3) := by decide +kernel
theorem dX6_lay_5 : decode cX6_lay 5 = .ok (.ifCond .ne 9, 3) := by decide +kernel
theorem dX6_lay_8 : decode cX6_lay 8 = .ok (.aload_n 0, 1) := by decide +kernel
theorem dX6_lay_9 : decode cX6_lay 9 = .ok (.iconst 1, 1) := by decide +kernel
theorem dX6_lay_10 : decode cX6_lay 10 = .ok (.invokevirtual 92, 3) := by decide +kernel
theorem dX6_lay_13 : decode cX6_lay 13 = .ok (.ireturn, 1) := by decide +kernel
theorem dX6_lay_14 : decode cX6_lay 14 = .ok (.aload_n 0, 1) := by decide +kernel
theorem dX6_lay_15 : decode cX6_lay 15 = .ok (.iload_n 1, 1) := by decide +kernel
theorem dX6_lay_16 : decode cX6_lay 16 = .ok (.invokevirtual 143, 3) := by decide +kernel
theorem dX6_lay_19 : decode cX6_lay 19 = .ok (.aload_n 0, 1) := by decide +kernel
theorem dX6_lay_20 : decode cX6_lay 20 = .ok (.getfield 106, 3) := by decide +kernel
theorem dX6_lay_23 : decode cX6_lay 23 = .ok (.ifCond .ne 9, 3) := by decide +kernel
theorem dX6_lay_26 : decode cX6_lay 26 = .ok (.aload_n 0, 1) := by decide +kernel
theorem dX6_lay_27 : decode cX6_lay 27 = .ok (.iconst 2, 1) := by decide +kernel
theorem dX6_lay_28 : decode cX6_lay 28 = .ok (.invokevirtual 92, 3) := by decide +kernel
theorem dX6_lay_31 : decode cX6_lay 31 = .ok (.ireturn, 1) := by decide +kernel
theorem dX6_lay_32 : decode cX6_lay 32 = .ok (.iconst 0, 1) := by decide +kernel
theorem dX6_lay_33 : decode cX6_lay 33 = .ok (.istore_n 2, 1) := by decide +kernel
theorem dX6_lay_34 : decode cX6_lay 34 = .ok (.iload_n 2, 1) := by decide +kernel
theorem dX6_lay_35 : decode cX6_lay 35 = .ok (.bipush 40, 2) := by decide +kernel
theorem dX6_lay_37 : decode cX6_lay 37 = .ok (.if_icmp .ge 21, 3) := by decide +kernel
theorem dX6_lay_40 : decode cX6_lay 40 = .ok (.aload_n 0, 1) := by decide +kernel
theorem dX6_lay_41 : decode cX6_lay 41 = .ok (.getfield 65, 3) := by decide +kernel
theorem dX6_lay_44 : decode cX6_lay 44 = .ok (.bipush 40, 2) := by decide +kernel
theorem dX6_lay_46 : decode cX6_lay 46 = .ok (.iload_n 1, 1) := by decide +kernel
theorem dX6_lay_47 : decode cX6_lay 47 = .ok (.imul, 1) := by decide +kernel
theorem dX6_lay_48 : decode cX6_lay 48 = .ok (.iload_n 2, 1) := by decide +kernel
theorem dX6_lay_49 : decode cX6_lay 49 = .ok (.iadd, 1) := by decide +kernel
theorem dX6_lay_50 : decode cX6_lay 50 = .ok (.iconst (-1), 1) := by decide +kernel
theorem dX6_lay_51 : decode cX6_lay 51 = .ok (.iastore, 1) := by decide +kernel
theorem dX6_lay_52 : decode cX6_lay 52 = .ok (.iinc 2 1, 3) := by decide +kernel
theorem dX6_lay_55 : decode cX6_lay 55 = .ok (.goto (-21), 3) := by decide +kernel
theorem dX6_lay_58 : decode cX6_lay 58 = .ok (.iconst 0, 1) := by decide +kernel
theorem dX6_lay_59 : decode cX6_lay 59 = .ok (.istore_n 2, 1) := by decide +kernel
theorem dX6_lay_60 : decode cX6_lay 60 = .ok (.iconst 0, 1) := by decide +kernel
theorem dX6_lay_61 : decode cX6_lay 61 = .ok (.istore_n 3, 1) := by decide +kernel
theorem dX6_lay_62 : decode cX6_lay 62 = .ok (.iload_n 3, 1) := by decide +kernel
theorem dX6_lay_63 : decode cX6_lay 63 = .ok (.aload_n 0, 1) := by decide +kernel
theorem dX6_lay_64 : decode cX6_lay 64 = .ok (.getfield 106, 3) := by decide +kernel
theorem dX6_lay_67 : decode cX6_lay 67 = .ok (.if_icmp .ge 98, 3) := by decide +kernel
theorem dX6_lay_70 : decode cX6_lay 70 = .ok (.iload_n 3, 1) := by decide +kernel
theorem dX6_lay_71 : decode cX6_lay 71 = .ok (.aload_n 0, 1) := by decide +kernel
theorem dX6_lay_72 : decode cX6_lay 72 = .ok (.getfield 59, 3) := by decide +kernel
theorem dX6_lay_75 : decode cX6_lay 75 = .ok (.iload_n 3, 1) := by decide +kernel
theorem dX6_lay_76 : decode cX6_lay 76 = .ok (.iaload, 1) := by decide +kernel
theorem dX6_lay_77 : decode cX6_lay 77 = .ok (.iadd, 1) := by decide +kernel
theorem dX6_lay_78 : decode cX6_lay 78 = .ok (.istore 4, 2) := by decide +kernel
theorem dX6_lay_80 : decode cX6_lay 80 = .ok (.iload_n 3, 1) := by decide +kernel
theorem dX6_lay_81 : decode cX6_lay 81 = .ok (.iload 4, 2) := by decide +kernel
theorem dX6_lay_83 : decode cX6_lay 83 = .ok (.if_icmp .ge 76, 3) := by decide +kernel
theorem dX6_lay_86 : decode cX6_lay 86 = .ok (.bipush 40, 2) := by decide +kernel
theorem dX6_lay_88 : decode cX6_lay 88 = .ok (.iload_n 1, 1) := by decide +kernel
theorem dX6_lay_89 : decode cX6_lay 89 = .ok (.imul, 1) := by decide +kernel
theorem dX6_lay_90 : decode cX6_lay 90 = .ok (.aload_n 0, 1) := by decide +kernel
theorem dX6_lay_91 : decode cX6_lay 91 = .ok (.getfield 50, 3) := by decide +kernel
theorem dX6_lay_94 : decode cX6_lay 94 = .ok (.iload_n 3, 1) := by decide +kernel
theorem dX6_lay_95 : decode cX6_lay 95 = .ok (.iaload, 1) := by decide +kernel
theorem dX6_lay_96 : decode cX6_lay 96 = .ok (.iadd, 1) := by decide +kernel
theorem dX6_lay_97 : decode cX6_lay 97 = .ok (.istore 5, 2) := by decide +kernel
theorem dX6_lay_99 : decode cX6_lay 99 = .ok (.aload_n 0, 1) := by decide +kernel
theorem dX6_lay_100 : decode cX6_lay 100 = .ok (.getfield 65, 3) := by decide +kernel
theorem dX6_lay_103 : decode cX6_lay 103 = .ok (.iload 5, 2) := by decide +kernel
theorem dX6_lay_105 : decode cX6_lay 105 = .ok (.iload_n 2, 1) := by decide +kernel
theorem dX6_lay_106 : decode cX6_lay 106 = .ok (.iastore, 1) := by decide +kernel
theorem dX6_lay_107 : decode cX6_lay 107 = .ok (.aload_n 0, 1) := by decide +kernel
theorem dX6_lay_108 : decode cX6_lay 108 = .ok (.getfield 68, 3) := by decide +kernel
theorem dX6_lay_111 : decode cX6_lay 111 = .ok (.iload 5, 2) := by decide +kernel
theorem dX6_lay_113 : decode cX6_lay 113 = .ok (.aload_n 0, 1) := by decide +kernel
theorem dX6_lay_114 : decode cX6_lay 114 = .ok (.getfield 38, 3) := by decide +kernel
theorem dX6_lay_117 : decode cX6_lay 117 = .ok (.iload 5, 2) := by decide +kernel
theorem dX6_lay_119 : decode cX6_lay 119 = .ok (.iaload, 1) := by decide +kernel
theorem dX6_lay_120 : decode cX6_lay 120 = .ok (.iastore, 1) := by decide +kernel
theorem dX6_lay_121 : decode cX6_lay 121 = .ok (.aload_n 0, 1) := by decide +kernel
theorem dX6_lay_122 : decode cX6_lay 122 = .ok (.getfield 71, 3) := by decide +kernel
theorem dX6_lay_125 : decode cX6_lay 125 = .ok (.iload 5, 2) := by decide +kernel
theorem dX6_lay_127 : decode cX6_lay 127 = .ok (.aload_n 0, 1) := by decide +kernel
theorem dX6_lay_128 : decode cX6_lay 128 = .ok (.getfield 41, 3) := by decide +kernel
theorem dX6_lay_131 : decode cX6_lay 131 = .ok (.iload 5, 2) := by decide +kernel
theorem dX6_lay_133 : decode cX6_lay 133 = .ok (.iaload, 1) := by decide +kernel
theorem dX6_lay_134 : decode cX6_lay 134 = .ok (.iastore, 1) := by decide +kernel
theorem dX6_lay_135 : decode cX6_lay 135 = .ok (.aload_n 0, 1) := by decide +kernel
theorem dX6_lay_136 : decode cX6_lay 136 = .ok (.getfield 74, 3) := by decide +kernel
theorem dX6_lay_139 : decode cX6_lay 139 = .ok (.iload 5, 2) := by decide +kernel
theorem dX6_lay_141 : decode cX6_lay 141 = .ok (.aload_n 0, 1) := by decide +kernel
theorem dX6_lay_142 : decode cX6_lay 142 = .ok (.getfield 26, 3) := by decide +kernel
theorem dX6_lay_145 : decode cX6_lay 145 = .ok (.aload_n 0, 1) := by decide +kernel
theorem dX6_lay_146 : decode cX6_lay 146 = .ok (.getfield 50, 3) := by decide +kernel
theorem dX6_lay_149 : decode cX6_lay 149 = .ok (.iload_n 3, 1) := by decide +kernel
theorem dX6_lay_150 : decode cX6_lay 150 = .ok (.iaload, 1) := by decide +kernel
theorem dX6_lay_151 : decode cX6_lay 151 = .ok (.iaload, 1) := by decide +kernel
theorem dX6_lay_152 : decode cX6_lay 152 = .ok (.iastore, 1) := by decide +kernel
theorem dX6_lay_153 : decode cX6_lay 153 = .ok (.iinc 3 1, 3) := by decide +kernel
theorem dX6_lay_156 : decode cX6_lay 156 = .ok (.goto (-76), 3) := by decide +kernel
theorem dX6_lay_159 : decode cX6_lay 159 = .ok (.iinc 2 1, 3) := by decide +kernel
theorem dX6_lay_162 : decode cX6_lay 162 = .ok (.goto (-100), 3) := by decide +kernel
theorem dX6_lay_165 : decode cX6_lay 165 = .ok (.aload_n 0, 1) := by decide +kernel
theorem dX6_lay_166 : decode cX6_lay 166 = .ok (.getfield 62, 3) := by decide +kernel
theorem dX6_lay_169 : decode cX6_lay 169 = .ok (.iload_n 1, 1) := by decide +kernel
theorem dX6_lay_170 : decode cX6_lay 170 = .ok (.iload_n 2, 1) := by decide +kernel
theorem dX6_lay_171 : decode cX6_lay 171 = .ok (.iastore, 1) := by decide +kernel
theorem dX6_lay_172 : decode cX6_lay 172 = .ok (.iload_n 2, 1) := by decide +kernel
theorem dX6_lay_173 : decode cX6_lay 173 = .ok (.ireturn, 1) := by decide +kernel
theorem dX6_stale_0 : decode cX6_stale 0 = .ok (.aload_n 0, 1) := by decide +kernel
theorem dX6_stale_1 : decode cX6_stale 1 = .ok (.iload_n 1, 1) := by decide +kernel
theorem dX6_stale_2 : decode cX6_stale 2 = .ok (.invokevirtual 96, 3) := by decide +kernel
theorem dX6_stale_5 : decode cX6_stale 5 = .ok (.ifCond .ne 9, 3) := by decide +kernel
theorem dX6_stale_8 : decode cX6_stale 8 = .ok (.aload_n 0, 1) := by decide +kernel
theorem dX6_stale_9 : decode cX6_stale 9 = .ok (.iconst 1, 1) := by decide +kernel
theorem dX6_stale_10 : decode cX6_stale 10 = .ok (.invokevirtual 92, 3) := by decide +kernel
theorem dX6_stale_13 : decode cX6_stale 13 = .ok (.ireturn, 1) := by decide +kernel
theorem dX6_stale_14 : decode cX6_stale 14 = .ok (.aload_n 0, 1) := by decide +kernel
theorem dX6_stale_15 : decode cX6_stale 15 = .ok (.getfield 62, 3) := by decide +kernel
theorem dX6_stale_18 : decode cX6_stale 18 = .ok (.iload_n 1, 1) := by decide +kernel
theorem dX6_stale_19 : decode cX6_stale 19 = .ok (.iaload, 1) := by decide +kernel
theorem dX6_stale_20 : decode cX6_stale 20 = .ok (.ifCond .ne 9, 3) := by decide +kernel
theorem dX6_stale_23 : decode cX6_stale 23 = .ok (.aload_n 0, 1) := by decide +kernel
theorem dX6_stale_24 : decode cX6_stale 24 = .ok (.iconst 2, 1) := by decide +kernel
theorem dX6_stale_25 : decode cX6_stale 25 = .ok (.invokevirtual 92, 3) := by decide +kernel
theorem dX6_stale_28 : decode cX6_stale 28 = .ok (.ireturn, 1) := by decide +kernel
theorem dX6_stale_29 : decode cX6_stale 29 = .ok (.iconst 0, 1) := by decide +kernel
theorem dX6_stale_30 : decode cX6_stale 30 = .ok (.istore_n 2, 1) := by decide +kernel
theorem dX6_stale_31 : decode cX6_stale 31 = .ok (.iload_n 2, 1) := by decide +kernel
theorem dX6_stale_32 : decode cX6_stale 32 = .ok (.bipush 40, 2) := by decide +kernel
theorem dX6_stale_34 : decode cX6_stale 34 = .ok (.if_icmp .ge 16, 3) := by decide +kernel
theorem dX6_stale_37 : decode cX6_stale 37 = .ok (.aload_n 0, 1) := by decide +kernel
theorem dX6_stale_38 : decode cX6_stale 38 = .ok (.getfield 77, 3) := by decide +kernel
theorem dX6_stale_41 : decode cX6_stale 41 = .ok (.iload_n 2, 1) := by decide +kernel
theorem dX6_stale_42 : decode cX6_stale 42 = .ok (.iconst 0, 1) := by decide +kernel
theorem dX6_stale_43 : decode cX6_stale 43 = .ok (.bastore, 1) := by decide +kernel
theorem dX6_stale_44 : decode cX6_stale 44 = .ok (.iinc 2 1, 3) := by decide +kernel
theorem dX6_stale_47 : decode cX6_stale 47 = .ok (.goto (-16), 3) := by decide +kernel
theorem dX6_stale_50 : decode cX6_stale 50 = .ok (.iconst 0, 1) := by decide +kernel
theorem dX6_stale_51 : decode cX6_stale 51 = .ok (.istore_n 2, 1) := by decide +kernel
theorem dX6_stale_52 : decode cX6_stale 52 = .ok (.iconst 0, 1) := by decide +kernel
theorem dX6_stale_53 : decode cX6_stale 53 = .ok (.istore_n 3, 1) := by decide +kernel
theorem dX6_stale_54 : decode cX6_stale 54 = .ok (.iload_n 3, 1) := by decide +kernel
theorem dX6_stale_55 : decode cX6_stale 55 = .ok (.aload_n 0, 1) := by decide +kernel
theorem dX6_stale_56 : decode cX6_stale 56 = .ok (.getfield 82, 3) := by decide +kernel
theorem dX6_stale_59 : decode cX6_stale 59 = .ok (.if_icmp .ge 110, 3) := by decide +kernel
theorem dX6_stale_62 : decode cX6_stale 62 = .ok (.bipush 40, 2) := by decide +kernel
theorem dX6_stale_64 : decode cX6_stale 64 = .ok (.iload_n 1, 1) := by decide +kernel
theorem dX6_stale_65 : decode cX6_stale 65 = .ok (.imul, 1) := by decide +kernel
theorem dX6_stale_66 : decode cX6_stale 66 = .ok (.iload_n 3, 1) := by decide +kernel
theorem dX6_stale_67 : decode cX6_stale 67 = .ok (.iadd, 1) := by decide +kernel
theorem dX6_stale_68 : decode cX6_stale 68 = .ok (.istore 4, 2) := by decide +kernel
theorem dX6_stale_70 : decode cX6_stale 70 = .ok (.aload_n 0, 1) := by decide +kernel
theorem dX6_stale_71 : decode cX6_stale 71 = .ok (.getfield 65, 3) := by decide +kernel
theorem dX6_stale_74 : decode cX6_stale 74 = .ok (.iload 4, 2) := by decide +kernel
theorem dX6_stale_76 : decode cX6_stale 76 = .ok (.iaload, 1) := by decide +kernel
theorem dX6_stale_77 : decode cX6_stale 77 = .ok (.ifCond .lt 71, 3) := by decide +kernel
theorem dX6_stale_80 : decode cX6_stale 80 = .ok (.aload_n 0, 1) := by decide +kernel
theorem dX6_stale_81 : decode cX6_stale 81 = .ok (.getfield 65, 3) := by decide +kernel
theorem dX6_stale_84 : decode cX6_stale 84 = .ok (.iload 4, 2) := by decide +kernel
theorem dX6_stale_86 : decode cX6_stale 86 = .ok (.iaload, 1) := by decide +kernel
theorem dX6_stale_87 : decode cX6_stale 87 = .ok (.istore_n 2, 1) := by decide +kernel
theorem dX6_stale_88 : decode cX6_stale 88 = .ok (.aload_n 0, 1) := by decide +kernel
theorem dX6_stale_89 : decode cX6_stale 89 = .ok (.getfield 68, 3) := by decide +kernel
theorem dX6_stale_92 : decode cX6_stale 92 = .ok (.iload 4, 2) := by decide +kernel
theorem dX6_stale_94 : decode cX6_stale 94 = .ok (.iaload, 1) := by decide +kernel
theorem dX6_stale_95 : decode cX6_stale 95 = .ok (.aload_n 0, 1) := by decide +kernel
theorem dX6_stale_96 : decode cX6_stale 96 = .ok (.getfield 38, 3) := by decide +kernel
theorem dX6_stale_99 : decode cX6_stale 99 = .ok (.iload 4, 2) := by decide +kernel
theorem dX6_stale_101 : decode cX6_stale 101 = .ok (.iaload, 1) := by decide +kernel
theorem dX6_stale_102 : decode cX6_stale 102 = .ok (.if_icmp .ne 36, 3) := by decide +kernel
theorem dX6_stale_105 : decode cX6_stale 105 = .ok (.aload_n 0, 1) := by decide +kernel
theorem dX6_stale_106 : decode cX6_stale 106 = .ok (.getfield 71, 3) := by decide +kernel
theorem dX6_stale_109 : decode cX6_stale 109 = .ok (.iload 4, 2) := by decide +kernel
theorem dX6_stale_111 : decode cX6_stale 111 = .ok (.iaload, 1) := by decide +kernel
theorem dX6_stale_112 : decode cX6_stale 112 = .ok (.aload_n 0, 1) := by decide +kernel
theorem dX6_stale_113 : decode cX6_stale 113 = .ok (.getfield 41, 3) := by decide +kernel
theorem dX6_stale_116 : decode cX6_stale 116 = .ok (.iload 4, 2) := by decide +kernel
theorem dX6_stale_118 : decode cX6_stale 118 = .ok (.iaload, 1) := by decide +kernel
theorem dX6_stale_119 : decode cX6_stale 119 = .ok (.if_icmp .ne 19, 3) := by decide +kernel
theorem dX6_stale_122 : decode cX6_stale 122 = .ok (.aload_n 0, 1) := by decide +kernel
theorem dX6_stale_123 : decode cX6_stale 123 = .ok (.getfield 74, 3) := by decide +kernel
theorem dX6_stale_126 : decode cX6_stale 126 = .ok (.iload 4, 2) := by decide +kernel
theorem dX6_stale_128 : decode cX6_stale 128 = .ok (.iaload, 1) := by decide +kernel
theorem dX6_stale_129 : decode cX6_stale 129 = .ok (.aload_n 0, 1) := by decide +kernel
theorem dX6_stale_130 : decode cX6_stale 130 = .ok (.getfield 26, 3) := by decide +kernel
theorem dX6_stale_133 : decode cX6_stale 133 = .ok (.iload_n 3, 1) := by decide +kernel
theorem dX6_stale_134 : decode cX6_stale 134 = .ok (.iaload, 1) := by decide +kernel
theorem dX6_stale_135 : decode cX6_stale 135 = .ok (.if_icmp .eq 28, 3) := by decide +kernel
theorem dX6_stale_138 : decode cX6_stale 138 = .ok (.aload_n 0, 1) := by decide +kernel
theorem dX6_stale_139 : decode cX6_stale 139 = .ok (.getfield 77, 3) := by decide +kernel
theorem dX6_stale_142 : decode cX6_stale 142 = .ok (.iload_n 2, 1) := by decide +kernel
theorem dX6_stale_143 : decode cX6_stale 143 = .ok (.iconst 1, 1) := by decide +kernel
theorem dX6_stale_144 : decode cX6_stale 144 = .ok (.bastore, 1) := by decide +kernel
theorem dX6_stale_145 : decode cX6_stale 145 = .ok (.goto 18, 3) := by decide +kernel
theorem dX6_stale_148 : decode cX6_stale 148 = .ok (.aload_n 0, 1) := by decide +kernel
theorem dX6_stale_149 : decode cX6_stale 149 = .ok (.iload_n 3, 1) := by decide +kernel
theorem dX6_stale_150 : decode cX6_stale 150 = .ok (.invokevirtual 103, 3) := by decide +kernel
theorem dX6_stale_153 : decode cX6_stale 153 = .ok (.ifCond .ne 10, 3) := by decide +kernel
theorem dX6_stale_156 : decode cX6_stale 156 = .ok (.aload_n 0, 1) := by decide +kernel
theorem dX6_stale_157 : decode cX6_stale 157 = .ok (.getfield 77, 3) := by decide +kernel
theorem dX6_stale_160 : decode cX6_stale 160 = .ok (.iload_n 2, 1) := by decide +kernel
theorem dX6_stale_161 : decode cX6_stale 161 = .ok (.iconst 1, 1) := by decide +kernel
theorem dX6_stale_162 : decode cX6_stale 162 = .ok (.bastore, 1) := by decide +kernel
theorem dX6_stale_163 : decode cX6_stale 163 = .ok (.iinc 3 1, 3) := by decide +kernel
theorem dX6_stale_166 : decode cX6_stale 166 = .ok (.goto (-112), 3) := by decide +kernel
theorem dX6_stale_169 : decode cX6_stale 169 = .ok (.iconst 0, 1) := by decide +kernel
theorem dX6_stale_170 : decode cX6_stale 170 = .ok (.istore_n 3, 1) := by decide +kernel
theorem dX6_stale_171 : decode cX6_stale 171 = .ok (.iconst 0, 1) := by decide +kernel
theorem dX6_stale_172 : decode cX6_stale 172 = .ok (.istore 4, 2) := by decide +kernel
theorem dX6_stale_174 : decode cX6_stale 174 = .ok (.iload 4, 2) := by decide +kernel
theorem dX6_stale_176 : decode cX6_stale 176 = .ok (.aload_n 0, 1) := by decide +kernel
theorem dX6_stale_177 : decode cX6_stale 177 = .ok (.getfield 62, 3) := by decide +kernel
theorem dX6_stale_180 : decode cX6_stale 180 = .ok (.iload_n 1, 1) := by decide +kernel
theorem dX6_stale_181 : decode cX6_stale 181 = .ok (.iaload, 1) := by decide +kernel
theorem dX6_stale_182 : decode cX6_stale 182 = .ok (.if_icmp .ge 27, 3) := by decide +kernel
theorem dX6_stale_185 : decode cX6_stale 185 = .ok (.iload_n 3, 1) := by decide +kernel
theorem dX6_stale_186 : decode cX6_stale 186 = .ok (.aload_n 0, 1) := by decide +kernel
theorem dX6_stale_187 : decode cX6_stale 187 = .ok (.getfield 77, 3) := by decide +kernel
theorem dX6_stale_190 : decode cX6_stale 190 = .ok (.iload 4, 2) := by decide +kernel
theorem dX6_stale_192 : decode cX6_stale 192 = .ok (.baload, 1) := by decide +kernel
theorem dX6_stale_193 : decode cX6_stale 193 = .ok (.ifCond .eq 7, 3) := by decide +kernel
theorem dX6_stale_196 : decode cX6_stale 196 = .ok (.iconst 1, 1) := by decide +kernel
theorem dX6_stale_197 : decode cX6_stale 197 = .ok (.goto 4, 3) := by decide +kernel
theorem dX6_stale_200 : decode cX6_stale 200 = .ok (.iconst 0, 1) := by decide +kernel
theorem dX6_stale_201 : decode cX6_stale 201 = .ok (.iadd, 1) := by decide +kernel
theorem dX6_stale_202 : decode cX6_stale 202 = .ok (.istore_n 3, 1) := by decide +kernel
theorem dX6_stale_203 : decode cX6_stale 203 = .ok (.iinc 4 1, 3) := by decide +kernel
theorem dX6_stale_206 : decode cX6_stale 206 = .ok (.goto (-32), 3) := by decide +kernel
theorem dX6_stale_209 : decode cX6_stale 209 = .ok (.iload_n 3, 1) := by decide +kernel
theorem dX6_stale_210 : decode cX6_stale 210 = .ok (.ireturn, 1) := by decide +kernel
theorem dX6_tell_0 : decode cX6_tell 0 = .ok (.aload_n 0, 1) := by decide +kernel
theorem dX6_tell_1 : decode cX6_tell 1 = .ok (.getfield 150, 3) := by decide +kernel
theorem dX6_tell_4 : decode cX6_tell 4 = .ok (.bipush 40, 2) := by decide +kernel
theorem dX6_tell_6 : decode cX6_tell 6 = .ok (.if_icmp .ne 9, 3) := by decide +kernel
theorem dX6_tell_9 : decode cX6_tell 9 = .ok (.aload_n 0, 1) := by decide +kernel
theorem dX6_tell_10 : decode cX6_tell 10 = .ok (.iconst 4, 1) := by decide +kernel
theorem dX6_tell_11 : decode cX6_tell 11 = .ok (.invokevirtual 92, 3) := by decide +kernel
theorem dX6_tell_14 : decode cX6_tell 14 = .ok (.ireturn, 1) := by decide +kernel
theorem dX6_tell_15 : decode cX6_tell 15 = .ok (.aload_n 0, 1) := by decide +kernel
theorem dX6_tell_16 : decode cX6_tell 16 = .ok (.getfield 44, 3) := by decide +kernel
theorem dX6_tell_19 : decode cX6_tell 19 = .ok (.aload_n 0, 1) := by decide +kernel
theorem dX6_tell_20 : decode cX6_tell 20 = .ok (.getfield 150, 3) := by decide +kernel
theorem dX6_tell_23 : decode cX6_tell 23 = .ok (.iload_n 1, 1) := by decide +kernel
theorem dX6_tell_24 : decode cX6_tell 24 = .ok (.iastore, 1) := by decide +kernel
theorem dX6_tell_25 : decode cX6_tell 25 = .ok (.aload_n 0, 1) := by decide +kernel
theorem dX6_tell_26 : decode cX6_tell 26 = .ok (.dup, 1) := by decide +kernel
theorem dX6_tell_27 : decode cX6_tell 27 = .ok (.getfield 150, 3) := by decide +kernel
theorem dX6_tell_30 : decode cX6_tell 30 = .ok (.iconst 1, 1) := by decide +kernel
theorem dX6_tell_31 : decode cX6_tell 31 = .ok (.iadd, 1) := by decide +kernel
theorem dX6_tell_32 : decode cX6_tell 32 = .ok (.putfield 150, 3) := by decide +kernel
theorem dX6_tell_35 : decode cX6_tell 35 = .ok (.aload_n 0, 1) := by decide +kernel
theorem dX6_tell_36 : decode cX6_tell 36 = .ok (.getfield 150, 3) := by decide +kernel
theorem dX6_tell_39 : decode cX6_tell 39 = .ok (.ireturn, 1) := by decide +kernel
theorem dX6_check_0 : decode cX6_check 0 = .ok (.aload_n 0, 1) := by decide +kernel
theorem dX6_check_1 : decode cX6_check 1 = .ok (.getfield 150, 3) := by decide +kernel
theorem dX6_check_4 : decode cX6_check 4 = .ok (.istore_n 2, 1) := by decide +kernel
theorem dX6_check_5 : decode cX6_check 5 = .ok (.aload_n 0, 1) := by decide +kernel
theorem dX6_check_6 : decode cX6_check 6 = .ok (.iconst 0, 1) := by decide +kernel
theorem dX6_check_7 : decode cX6_check 7 = .ok (.putfield 150, 3) := by decide +kernel
theorem dX6_check_10 : decode cX6_check 10 = .ok (.aload_n 0, 1) := by decide +kernel
theorem dX6_check_11 : decode cX6_check 11 = .ok (.iload_n 1, 1) := by decide +kernel
theorem dX6_check_12 : decode cX6_check 12 = .ok (.invokevirtual 96, 3) := by decide +kernel
theorem dX6_check_15 : decode cX6_check 15 = .ok (.ifCond .ne 9, 3) := by decide +kernel
theorem dX6_check_18 : decode cX6_check 18 = .ok (.aload_n 0, 1) := by decide +kernel
theorem dX6_check_19 : decode cX6_check 19 = .ok (.iconst 1, 1) := by decide +kernel
theorem dX6_check_20 : decode cX6_check 20 = .ok (.invokevirtual 92, 3) := by decide +kernel
theorem dX6_check_23 : decode cX6_check 23 = .ok (.ireturn, 1) := by decide +kernel
theorem dX6_check_24 : decode cX6_check 24 = .ok (.aload_n 0, 1) := by decide +kernel
theorem dX6_check_25 : decode cX6_check 25 = .ok (.invokevirtual 116, 3) := by decide +kernel
theorem dX6_check_28 : decode cX6_check 28 = .ok (.iconst 0, 1) := by decide +kernel
theorem dX6_check_29 : decode cX6_check 29 = .ok (.istore_n 3, 1) := by decide +kernel
theorem dX6_check_30 : decode cX6_check 30 = .ok (.iconst 0, 1) := by decide +kernel
theorem dX6_check_31 : decode cX6_check 31 = .ok (.istore 4, 2) := by decide +kernel
theorem dX6_check_33 : decode cX6_check 33 = .ok (.iload 4, 2) := by decide +kernel
theorem dX6_check_35 : decode cX6_check 35 = .ok (.aload_n 0, 1) := by decide +kernel
theorem dX6_check_36 : decode cX6_check 36 = .ok (.getfield 106, 3) := by decide +kernel
theorem dX6_check_39 : decode cX6_check 39 = .ok (.if_icmp .ge 94, 3) := by decide +kernel
theorem dX6_check_42 : decode cX6_check 42 = .ok (.aload_n 0, 1) := by decide +kernel
theorem dX6_check_43 : decode cX6_check 43 = .ok (.iload_n 1, 1) := by decide +kernel
theorem dX6_check_44 : decode cX6_check 44 = .ok (.iload 4, 2) := by decide +kernel
theorem dX6_check_46 : decode cX6_check 46 = .ok (.invokevirtual 109, 3) := by decide +kernel
theorem dX6_check_49 : decode cX6_check 49 = .ok (.ifCond .eq 13, 3) := by decide +kernel
theorem dX6_check_52 : decode cX6_check 52 = .ok (.aload_n 0, 1) := by decide +kernel
theorem dX6_check_53 : decode cX6_check 53 = .ok (.iload_n 1, 1) := by decide +kernel
theorem dX6_check_54 : decode cX6_check 54 = .ok (.iload 4, 2) := by decide +kernel
theorem dX6_check_56 : decode cX6_check 56 = .ok (.invokevirtual 119, 3) := by decide +kernel
theorem dX6_check_59 : decode cX6_check 59 = .ok (.goto 4, 3) := by decide +kernel
theorem dX6_check_62 : decode cX6_check 62 = .ok (.iconst 1, 1) := by decide +kernel
theorem dX6_check_63 : decode cX6_check 63 = .ok (.istore 5, 2) := by decide +kernel
theorem dX6_check_65 : decode cX6_check 65 = .ok (.aload_n 0, 1) := by decide +kernel
theorem dX6_check_66 : decode cX6_check 66 = .ok (.iload_n 1, 1) := by decide +kernel
theorem dX6_check_67 : decode cX6_check 67 = .ok (.iload 4, 2) := by decide +kernel
theorem dX6_check_69 : decode cX6_check 69 = .ok (.invokevirtual 109, 3) := by decide +kernel
theorem dX6_check_72 : decode cX6_check 72 = .ok (.ifCond .eq 9, 3) := by decide +kernel
theorem dX6_check_75 : decode cX6_check 75 = .ok (.iload 5, 2) := by decide +kernel
theorem dX6_check_77 : decode cX6_check 77 = .ok (.ineg, 1) := by decide +kernel
theorem dX6_check_78 : decode cX6_check 78 = .ok (.goto 20, 3) := by decide +kernel
theorem dX6_check_81 : decode cX6_check 81 = .ok (.aload_n 0, 1) := by decide +kernel
theorem dX6_check_82 : decode cX6_check 82 = .ok (.getfield 38, 3) := by decide +kernel
theorem dX6_check_85 : decode cX6_check 85 = .ok (.bipush 40, 2) := by decide +kernel
theorem dX6_check_87 : decode cX6_check 87 = .ok (.iload_n 1, 1) := by decide +kernel
theorem dX6_check_88 : decode cX6_check 88 = .ok (.imul, 1) := by decide +kernel
theorem dX6_check_89 : decode cX6_check 89 = .ok (.aload_n 0, 1) := by decide +kernel
theorem dX6_check_90 : decode cX6_check 90 = .ok (.getfield 50, 3) := by decide +kernel
theorem dX6_check_93 : decode cX6_check 93 = .ok (.iload 4, 2) := by decide +kernel
theorem dX6_check_95 : decode cX6_check 95 = .ok (.iaload, 1) := by decide +kernel
theorem dX6_check_96 : decode cX6_check 96 = .ok (.iadd, 1) := by decide +kernel
theorem dX6_check_97 : decode cX6_check 97 = .ok (.iaload, 1) := by decide +kernel
theorem dX6_check_98 : decode cX6_check 98 = .ok (.istore 6, 2) := by decide +kernel
theorem dX6_check_100 : decode cX6_check 100 = .ok (.iload_n 3, 1) := by decide +kernel
theorem dX6_check_101 : decode cX6_check 101 = .ok (.iload_n 2, 1) := by decide +kernel
theorem dX6_check_102 : decode cX6_check 102 = .ok (.if_icmp .ge 14, 3) := by decide +kernel
theorem dX6_check_105 : decode cX6_check 105 = .ok (.aload_n 0, 1) := by decide +kernel
theorem dX6_check_106 : decode cX6_check 106 = .ok (.getfield 44, 3) := by decide +kernel
theorem dX6_check_109 : decode cX6_check 109 = .ok (.iload_n 3, 1) := by decide +kernel
theorem dX6_check_110 : decode cX6_check 110 = .ok (.iaload, 1) := by decide +kernel
theorem dX6_check_111 : decode cX6_check 111 = .ok (.iload 6, 2) := by decide +kernel
theorem dX6_check_113 : decode cX6_check 113 = .ok (.if_icmp .eq 7, 3) := by decide +kernel
theorem dX6_check_116 : decode cX6_check 116 = .ok (.iconst 1, 1) := by decide +kernel
theorem dX6_check_117 : decode cX6_check 117 = .ok (.iload_n 3, 1) := by decide +kernel
theorem dX6_check_118 : decode cX6_check 118 = .ok (.iadd, 1) := by decide +kernel
theorem dX6_check_119 : decode cX6_check 119 = .ok (.ireturn, 1) := by decide +kernel
theorem dX6_check_120 : decode cX6_check 120 = .ok (.iinc 3 1, 3) := by decide +kernel
theorem dX6_check_123 : decode cX6_check 123 = .ok (.iload 4, 2) := by decide +kernel
theorem dX6_check_125 : decode cX6_check 125 = .ok (.iload 5, 2) := by decide +kernel
theorem dX6_check_127 : decode cX6_check 127 = .ok (.iadd, 1) := by decide +kernel
theorem dX6_check_128 : decode cX6_check 128 = .ok (.istore 4, 2) := by decide +kernel
theorem dX6_check_130 : decode cX6_check 130 = .ok (.goto (-97), 3) := by decide +kernel
theorem dX6_check_133 : decode cX6_check 133 = .ok (.iload_n 2, 1) := by decide +kernel
theorem dX6_check_134 : decode cX6_check 134 = .ok (.iload_n 3, 1) := by decide +kernel
theorem dX6_check_135 : decode cX6_check 135 = .ok (.if_icmp .le 8, 3) := by decide +kernel
theorem dX6_check_138 : decode cX6_check 138 = .ok (.bipush 99, 2) := by decide +kernel
theorem dX6_check_140 : decode cX6_check 140 = .ok (.goto 4, 3) := by decide +kernel
theorem dX6_check_143 : decode cX6_check 143 = .ok (.iconst 0, 1) := by decide +kernel
theorem dX6_check_144 : decode cX6_check 144 = .ok (.ireturn, 1) := by decide +kernel
theorem dX6_count_0 : decode cX6_count 0 = .ok (.iconst 0, 1) := by decide +kernel
theorem dX6_count_1 : decode cX6_count 1 = .ok (.istore_n 2, 1) := by decide +kernel
theorem dX6_count_2 : decode cX6_count 2 = .ok (.iload_n 1, 1) := by decide +kernel
theorem dX6_count_3 : decode cX6_count 3 = .ok (.tableswitch 160 0 5 #[37, 42, 47, 81, 120, 125], 37) := by decide +kernel
theorem dX6_count_40 : decode cX6_count 40 = .ok (.aload_n 0, 1) := by decide +kernel
theorem dX6_count_41 : decode cX6_count 41 = .ok (.getfield 82, 3) := by decide +kernel
theorem dX6_count_44 : decode cX6_count 44 = .ok (.ireturn, 1) := by decide +kernel
theorem dX6_count_45 : decode cX6_count 45 = .ok (.aload_n 0, 1) := by decide +kernel
theorem dX6_count_46 : decode cX6_count 46 = .ok (.getfield 89, 3) := by decide +kernel
theorem dX6_count_49 : decode cX6_count 49 = .ok (.ireturn, 1) := by decide +kernel
theorem dX6_count_50 : decode cX6_count 50 = .ok (.iconst 0, 1) := by decide +kernel
theorem dX6_count_51 : decode cX6_count 51 = .ok (.istore_n 3, 1) := by decide +kernel
theorem dX6_count_52 : decode cX6_count 52 = .ok (.iload_n 3, 1) := by decide +kernel
theorem dX6_count_53 : decode cX6_count 53 = .ok (.aload_n 0, 1) := by decide +kernel
theorem dX6_count_54 : decode cX6_count 54 = .ok (.getfield 82, 3) := by decide +kernel
theorem dX6_count_57 : decode cX6_count 57 = .ok (.if_icmp .ge 25, 3) := by decide +kernel
theorem dX6_count_60 : decode cX6_count 60 = .ok (.iload_n 2, 1) := by decide +kernel
theorem dX6_count_61 : decode cX6_count 61 = .ok (.aload_n 0, 1) := by decide +kernel
theorem dX6_count_62 : decode cX6_count 62 = .ok (.iload_n 3, 1) := by decide +kernel
theorem dX6_count_63 : decode cX6_count 63 = .ok (.invokevirtual 103, 3) := by decide +kernel
theorem dX6_count_66 : decode cX6_count 66 = .ok (.ifCond .eq 7, 3) := by decide +kernel
theorem dX6_count_69 : decode cX6_count 69 = .ok (.iconst 1, 1) := by decide +kernel
theorem dX6_count_70 : decode cX6_count 70 = .ok (.goto 4, 3) := by decide +kernel
theorem dX6_count_73 : decode cX6_count 73 = .ok (.iconst 0, 1) := by decide +kernel
theorem dX6_count_74 : decode cX6_count 74 = .ok (.iadd, 1) := by decide +kernel
theorem dX6_count_75 : decode cX6_count 75 = .ok (.istore_n 2, 1) := by decide +kernel
theorem dX6_count_76 : decode cX6_count 76 = .ok (.iinc 3 1, 3) := by decide +kernel
theorem dX6_count_79 : decode cX6_count 79 = .ok (.goto (-27), 3) := by decide +kernel
theorem dX6_count_82 : decode cX6_count 82 = .ok (.iload_n 2, 1) := by decide +kernel
theorem dX6_count_83 : decode cX6_count 83 = .ok (.ireturn, 1) := by decide +kernel
theorem dX6_count_84 : decode cX6_count 84 = .ok (.iconst 0, 1) := by decide +kernel
theorem dX6_count_85 : decode cX6_count 85 = .ok (.istore_n 3, 1) := by decide +kernel
theorem dX6_count_86 : decode cX6_count 86 = .ok (.iload_n 3, 1) := by decide +kernel
theorem dX6_count_87 : decode cX6_count 87 = .ok (.aload_n 0, 1) := by decide +kernel
theorem dX6_count_88 : decode cX6_count 88 = .ok (.getfield 82, 3) := by decide +kernel
theorem dX6_count_91 : decode cX6_count 91 = .ok (.if_icmp .ge 30, 3) := by decide +kernel
theorem dX6_count_94 : decode cX6_count 94 = .ok (.iload_n 2, 1) := by decide +kernel
theorem dX6_count_95 : decode cX6_count 95 = .ok (.aload_n 0, 1) := by decide +kernel
theorem dX6_count_96 : decode cX6_count 96 = .ok (.iload_n 3, 1) := by decide +kernel
theorem dX6_count_97 : decode cX6_count 97 = .ok (.invokevirtual 103, 3) := by decide +kernel
theorem dX6_count_100 : decode cX6_count 100 = .ok (.ifCond .eq 7, 3) := by decide +kernel
theorem dX6_count_103 : decode cX6_count 103 = .ok (.iconst 0, 1) := by decide +kernel
theorem dX6_count_104 : decode cX6_count 104 = .ok (.goto 9, 3) := by decide +kernel
theorem dX6_count_107 : decode cX6_count 107 = .ok (.aload_n 0, 1) := by decide +kernel
theorem dX6_count_108 : decode cX6_count 108 = .ok (.getfield 22, 3) := by decide +kernel
theorem dX6_count_111 : decode cX6_count 111 = .ok (.iload_n 3, 1) := by decide +kernel
theorem dX6_count_112 : decode cX6_count 112 = .ok (.iaload, 1) := by decide +kernel
theorem dX6_count_113 : decode cX6_count 113 = .ok (.iadd, 1) := by decide +kernel
theorem dX6_count_114 : decode cX6_count 114 = .ok (.istore_n 2, 1) := by decide +kernel
theorem dX6_count_115 : decode cX6_count 115 = .ok (.iinc 3 1, 3) := by decide +kernel
theorem dX6_count_118 : decode cX6_count 118 = .ok (.goto (-32), 3) := by decide +kernel
theorem dX6_count_121 : decode cX6_count 121 = .ok (.iload_n 2, 1) := by decide +kernel
theorem dX6_count_122 : decode cX6_count 122 = .ok (.ireturn, 1) := by decide +kernel
theorem dX6_count_123 : decode cX6_count 123 = .ok (.aload_n 0, 1) := by decide +kernel
theorem dX6_count_124 : decode cX6_count 124 = .ok (.getfield 150, 3) := by decide +kernel
theorem dX6_count_127 : decode cX6_count 127 = .ok (.ireturn, 1) := by decide +kernel
theorem dX6_count_128 : decode cX6_count 128 = .ok (.iconst 0, 1) := by decide +kernel
theorem dX6_count_129 : decode cX6_count 129 = .ok (.istore_n 3, 1) := by decide +kernel
theorem dX6_count_130 : decode cX6_count 130 = .ok (.iload_n 3, 1) := by decide +kernel
theorem dX6_count_131 : decode cX6_count 131 = .ok (.aload_n 0, 1) := by decide +kernel
theorem dX6_count_132 : decode cX6_count 132 = .ok (.getfield 89, 3) := by decide +kernel
theorem dX6_count_135 : decode cX6_count 135 = .ok (.if_icmp .ge 26, 3) := by decide +kernel
theorem dX6_count_138 : decode cX6_count 138 = .ok (.iload_n 2, 1) := by decide +kernel
theorem dX6_count_139 : decode cX6_count 139 = .ok (.aload_n 0, 1) := by decide +kernel
theorem dX6_count_140 : decode cX6_count 140 = .ok (.getfield 62, 3) := by decide +kernel
theorem dX6_count_143 : decode cX6_count 143 = .ok (.iload_n 3, 1) := by decide +kernel
theorem dX6_count_144 : decode cX6_count 144 = .ok (.iaload, 1) := by decide +kernel
theorem dX6_count_145 : decode cX6_count 145 = .ok (.ifCond .le 7, 3) := by decide +kernel
theorem dX6_count_148 : decode cX6_count 148 = .ok (.iconst 1, 1) := by decide +kernel
theorem dX6_count_149 : decode cX6_count 149 = .ok (.goto 4, 3) := by decide +kernel
theorem dX6_count_152 : decode cX6_count 152 = .ok (.iconst 0, 1) := by decide +kernel
theorem dX6_count_153 : decode cX6_count 153 = .ok (.iadd, 1) := by decide +kernel
theorem dX6_count_154 : decode cX6_count 154 = .ok (.istore_n 2, 1) := by decide +kernel
theorem dX6_count_155 : decode cX6_count 155 = .ok (.iinc 3 1, 3) := by decide +kernel
theorem dX6_count_158 : decode cX6_count 158 = .ok (.goto (-28), 3) := by decide +kernel
theorem dX6_count_161 : decode cX6_count 161 = .ok (.iload_n 2, 1) := by decide +kernel
theorem dX6_count_162 : decode cX6_count 162 = .ok (.ireturn, 1) := by decide +kernel
theorem dX6_count_163 : decode cX6_count 163 = .ok (.aload_n 0, 1) := by decide +kernel
theorem dX6_count_164 : decode cX6_count 164 = .ok (.iconst 1, 1) := by decide +kernel
theorem dX6_count_165 : decode cX6_count 165 = .ok (.invokevirtual 92, 3) := by decide +kernel
theorem dX6_count_168 : decode cX6_count 168 = .ok (.ireturn, 1) := by decide +kernel
theorem dX6_found_0 : decode cX6_found 0 = .ok (.iload_n 1, 1) := by decide +kernel
theorem dX6_found_1 : decode cX6_found 1 = .ok (.iconst 1, 1) := by decide +kernel
theorem dX6_found_2 : decode cX6_found 2 = .ok (.iconst 5, 1) := by decide +kernel
theorem dX6_found_3 : decode cX6_found 3 = .ok (.invokestatic 85, 3) := by decide +kernel
theorem dX6_found_6 : decode cX6_found 6 = .ok (.ifCond .eq 12, 3) := by decide +kernel
theorem dX6_found_9 : decode cX6_found 9 = .ok (.aload_n 0, 1) := by decide +kernel
theorem dX6_found_10 : decode cX6_found 10 = .ok (.getfield 47, 3) := by decide +kernel
theorem dX6_found_13 : decode cX6_found 13 = .ok (.iload_n 1, 1) := by decide +kernel
theorem dX6_found_14 : decode cX6_found 14 = .ok (.iaload, 1) := by decide +kernel
theorem dX6_found_15 : decode cX6_found 15 = .ok (.goto 8, 3) := by decide +kernel
theorem dX6_found_18 : decode cX6_found 18 = .ok (.aload_n 0, 1) := by decide +kernel
theorem dX6_found_19 : decode cX6_found 19 = .ok (.iconst 1, 1) := by decide +kernel
theorem dX6_found_20 : decode cX6_found 20 = .ok (.invokevirtual 92, 3) := by decide +kernel
theorem dX6_found_23 : decode cX6_found 23 = .ok (.ireturn, 1) := by decide +kernel
theorem dJ9_floorMod_7cf53_0 : decode cJ9_floorMod_7cf53 0 = .ok (.iload_n 0, 1) := by decide +kernel
theorem dJ9_floorMod_7cf53_1 : decode cJ9_floorMod_7cf53 1 = .ok (.iload_n 1, 1) := by decide +kernel
theorem dJ9_floorMod_7cf53_2 : decode cJ9_floorMod_7cf53 2 = .ok (.irem, 1) := by decide +kernel
theorem dJ9_floorMod_7cf53_3 : decode cJ9_floorMod_7cf53 3 = .ok (.istore_n 2, 1) := by decide +kernel
theorem dJ9_floorMod_7cf53_4 : decode cJ9_floorMod_7cf53 4 = .ok (.iload_n 0, 1) := by decide +kernel
theorem dJ9_floorMod_7cf53_5 : decode cJ9_floorMod_7cf53 5 = .ok (.iload_n 1, 1) := by decide +kernel
theorem dJ9_floorMod_7cf53_6 : decode cJ9_floorMod_7cf53 6 = .ok (.ixor, 1) := by decide +kernel
theorem dJ9_floorMod_7cf53_7 : decode cJ9_floorMod_7cf53 7 = .ok (.ifCond .ge 11, 3) := by decide +kernel
theorem dJ9_floorMod_7cf53_10 : decode cJ9_floorMod_7cf53 10 = .ok (.iload_n 2, 1) := by decide +kernel
theorem dJ9_floorMod_7cf53_11 : decode cJ9_floorMod_7cf53 11 = .ok (.ifCond .eq 7, 3) := by decide +kernel
theorem dJ9_floorMod_7cf53_14 : decode cJ9_floorMod_7cf53 14 = .ok (.iload_n 2, 1) := by decide +kernel
theorem dJ9_floorMod_7cf53_15 : decode cJ9_floorMod_7cf53 15 = .ok (.iload_n 1, 1) := by decide +kernel
theorem dJ9_floorMod_7cf53_16 : decode cJ9_floorMod_7cf53 16 = .ok (.iadd, 1) := by decide +kernel
theorem dJ9_floorMod_7cf53_17 : decode cJ9_floorMod_7cf53 17 = .ok (.ireturn, 1) := by decide +kernel
theorem dJ9_floorMod_7cf53_18 : decode cJ9_floorMod_7cf53 18 = .ok (.iload_n 2, 1) := by decide +kernel
theorem dJ9_floorMod_7cf53_19 : decode cJ9_floorMod_7cf53 19 = .ok (.ireturn, 1) := by decide +kernel
theorem dJ9_min_7cf53_0 : decode cJ9_min_7cf53 0 = .ok (.iload_n 0, 1) := by decide +kernel
theorem dJ9_min_7cf53_1 : decode cJ9_min_7cf53 1 = .ok (.iload_n 1, 1) := by decide +kernel
theorem dJ9_min_7cf53_2 : decode cJ9_min_7cf53 2 = .ok (.if_icmp .gt 7, 3) := by decide +kernel
theorem dJ9_min_7cf53_5 : decode cJ9_min_7cf53 5 = .ok (.iload_n 0, 1) := by decide +kernel
theorem dJ9_min_7cf53_6 : decode cJ9_min_7cf53 6 = .ok (.goto 4, 3) := by decide +kernel
theorem dJ9_min_7cf53_9 : decode cJ9_min_7cf53 9 = .ok (.iload_n 1, 1) := by decide +kernel
theorem dJ9_min_7cf53_10 : decode cJ9_min_7cf53 10 = .ok (.ireturn, 1) := by decide +kernel
theorem dL_law_0 : decode cL_law 0 = .ok (.new 7, 3) := by decide +kernel
theorem dL_law_3 : decode cL_law 3 = .ok (.dup, 1) := by decide +kernel
theorem dL_law_4 : decode cL_law 4 = .ok (.invokespecial 9, 3) := by decide +kernel
theorem dL_law_7 : decode cL_law 7 = .ok (.astore_n 1, 1) := by decide +kernel
theorem dL_law_8 : decode cL_law 8 = .ok (.new 10, 3) := by decide +kernel
theorem dL_law_11 : decode cL_law 11 = .ok (.dup, 1) := by decide +kernel
theorem dL_law_12 : decode cL_law 12 = .ok (.invokespecial 12, 3) := by decide +kernel
theorem dL_law_15 : decode cL_law 15 = .ok (.astore_n 2, 1) := by decide +kernel
theorem dL_law_16 : decode cL_law 16 = .ok (.iconst 0, 1) := by decide +kernel
theorem dL_law_17 : decode cL_law 17 = .ok (.istore_n 3, 1) := by decide +kernel
theorem dL_law_18 : decode cL_law 18 = .ok (.iload_n 3, 1) := by decide +kernel
theorem dL_law_19 : decode cL_law 19 = .ok (.aload_n 0, 1) := by decide +kernel
theorem dL_law_20 : decode cL_law 20 = .ok (.arraylength, 1) := by decide +kernel
theorem dL_law_21 : decode cL_law 21 = .ok (.iconst 5, 1) := by decide +kernel
theorem dL_law_22 : decode cL_law 22 = .ok (.isub, 1) := by decide +kernel
theorem dL_law_23 : decode cL_law 23 = .ok (.if_icmp .gt 839, 3) := by decide +kernel
theorem dL_law_26 : decode cL_law 26 = .ok (.aload_n 0, 1) := by decide +kernel
theorem dL_law_27 : decode cL_law 27 = .ok (.iload_n 3, 1) := by decide +kernel
theorem dL_law_28 : decode cL_law 28 = .ok (.iaload, 1) := by decide +kernel
theorem dL_law_29 : decode cL_law 29 = .ok (.bipush 31, 2) := by decide +kernel
theorem dL_law_31 : decode cL_law 31 = .ok (.iand, 1) := by decide +kernel
theorem dL_law_32 : decode cL_law 32 = .ok (.tableswitch 824 0 23 #[112, 135, 168, 201, 254, 287, 330, 363, 396, 429, 452, 475, 498, 531, 554, 587, 620, 653, 686, 709, 732, 755, 778, 801], 112) := by decide +kernel
theorem dL_law_144 : decode cL_law 144 = .ok (.aload_n 1, 1) := by decide +kernel
theorem dL_law_145 : decode cL_law 145 = .ok (.aload_n 0, 1) := by decide +kernel
theorem dL_law_146 : decode cL_law 146 = .ok (.iload_n 3, 1) := by decide +kernel
theorem dL_law_147 : decode cL_law 147 = .ok (.iconst 1, 1) := by decide +kernel
theorem dL_law_148 : decode cL_law 148 = .ok (.iadd, 1) := by decide +kernel
theorem dL_law_149 : decode cL_law 149 = .ok (.iaload, 1) := by decide +kernel
theorem dL_law_150 : decode cL_law 150 = .ok (.invokevirtual 13, 3) := by decide +kernel
theorem dL_law_153 : decode cL_law 153 = .ok (.aload_n 2, 1) := by decide +kernel
theorem dL_law_154 : decode cL_law 154 = .ok (.aload_n 0, 1) := by decide +kernel
theorem dL_law_155 : decode cL_law 155 = .ok (.iload_n 3, 1) := by decide +kernel
theorem dL_law_156 : decode cL_law 156 = .ok (.iconst 1, 1) := by decide +kernel
theorem dL_law_157 : decode cL_law 157 = .ok (.iadd, 1) := by decide +kernel
theorem dL_law_158 : decode cL_law 158 = .ok (.iaload, 1) := by decide +kernel
theorem dL_law_159 : decode cL_law 159 = .ok (.invokevirtual 17, 3) := by decide +kernel
theorem dL_law_162 : decode cL_law 162 = .ok (.if_icmp .eq 694, 3) := by decide +kernel
theorem dL_law_165 : decode cL_law 165 = .ok (.iconst 0, 1) := by decide +kernel
theorem dL_law_166 : decode cL_law 166 = .ok (.ireturn, 1) := by decide +kernel
theorem dL_law_167 : decode cL_law 167 = .ok (.aload_n 1, 1) := by decide +kernel
theorem dL_law_168 : decode cL_law 168 = .ok (.aload_n 0, 1) := by decide +kernel
theorem dL_law_169 : decode cL_law 169 = .ok (.iload_n 3, 1) := by decide +kernel
theorem dL_law_170 : decode cL_law 170 = .ok (.iconst 1, 1) := by decide +kernel
theorem dL_law_171 : decode cL_law 171 = .ok (.iadd, 1) := by decide +kernel
theorem dL_law_172 : decode cL_law 172 = .ok (.iaload, 1) := by decide +kernel
theorem dL_law_173 : decode cL_law 173 = .ok (.aload_n 0, 1) := by decide +kernel
theorem dL_law_174 : decode cL_law 174 = .ok (.iload_n 3, 1) := by decide +kernel
theorem dL_law_175 : decode cL_law 175 = .ok (.iconst 2, 1) := by decide +kernel
theorem dL_law_176 : decode cL_law 176 = .ok (.iadd, 1) := by decide +kernel
theorem dL_law_177 : decode cL_law 177 = .ok (.iaload, 1) := by decide +kernel
theorem dL_law_178 : decode cL_law 178 = .ok (.invokevirtual 18, 3) := by decide +kernel
theorem dL_law_181 : decode cL_law 181 = .ok (.aload_n 2, 1) := by decide +kernel
theorem dL_law_182 : decode cL_law 182 = .ok (.aload_n 0, 1) := by decide +kernel
theorem dL_law_183 : decode cL_law 183 = .ok (.iload_n 3, 1) := by decide +kernel
theorem dL_law_184 : decode cL_law 184 = .ok (.iconst 1, 1) := by decide +kernel
theorem dL_law_185 : decode cL_law 185 = .ok (.iadd, 1) := by decide +kernel
theorem dL_law_186 : decode cL_law 186 = .ok (.iaload, 1) := by decide +kernel
theorem dL_law_187 : decode cL_law 187 = .ok (.aload_n 0, 1) := by decide +kernel
theorem dL_law_188 : decode cL_law 188 = .ok (.iload_n 3, 1) := by decide +kernel
theorem dL_law_189 : decode cL_law 189 = .ok (.iconst 2, 1) := by decide +kernel
theorem dL_law_190 : decode cL_law 190 = .ok (.iadd, 1) := by decide +kernel
theorem dL_law_191 : decode cL_law 191 = .ok (.iaload, 1) := by decide +kernel
theorem dL_law_192 : decode cL_law 192 = .ok (.invokevirtual 22, 3) := by decide +kernel
theorem dL_law_195 : decode cL_law 195 = .ok (.if_icmp .eq 661, 3) := by decide +kernel
theorem dL_law_198 : decode cL_law 198 = .ok (.iconst 0, 1) := by decide +kernel
theorem dL_law_199 : decode cL_law 199 = .ok (.ireturn, 1) := by decide +kernel
theorem dL_law_200 : decode cL_law 200 = .ok (.aload_n 1, 1) := by decide +kernel
theorem dL_law_201 : decode cL_law 201 = .ok (.aload_n 0, 1) := by decide +kernel
theorem dL_law_202 : decode cL_law 202 = .ok (.iload_n 3, 1) := by decide +kernel
theorem dL_law_203 : decode cL_law 203 = .ok (.iconst 1, 1) := by decide +kernel
theorem dL_law_204 : decode cL_law 204 = .ok (.iadd, 1) := by decide +kernel
theorem dL_law_205 : decode cL_law 205 = .ok (.iaload, 1) := by decide +kernel
theorem dL_law_206 : decode cL_law 206 = .ok (.aload_n 0, 1) := by decide +kernel
theorem dL_law_207 : decode cL_law 207 = .ok (.iload_n 3, 1) := by decide +kernel
theorem dL_law_208 : decode cL_law 208 = .ok (.iconst 2, 1) := by decide +kernel
theorem dL_law_209 : decode cL_law 209 = .ok (.iadd, 1) := by decide +kernel
theorem dL_law_210 : decode cL_law 210 = .ok (.iaload, 1) := by decide +kernel
theorem dL_law_211 : decode cL_law 211 = .ok (.invokevirtual 23, 3) := by decide +kernel
theorem dL_law_214 : decode cL_law 214 = .ok (.aload_n 2, 1) := by decide +kernel
theorem dL_law_215 : decode cL_law 215 = .ok (.aload_n 0, 1) := by decide +kernel
theorem dL_law_216 : decode cL_law 216 = .ok (.iload_n 3, 1) := by decide +kernel
theorem dL_law_217 : decode cL_law 217 = .ok (.iconst 1, 1) := by decide +kernel
theorem dL_law_218 : decode cL_law 218 = .ok (.iadd, 1) := by decide +kernel
theorem dL_law_219 : decode cL_law 219 = .ok (.iaload, 1) := by decide +kernel
theorem dL_law_220 : decode cL_law 220 = .ok (.aload_n 0, 1) := by decide +kernel
theorem dL_law_221 : decode cL_law 221 = .ok (.iload_n 3, 1) := by decide +kernel
theorem dL_law_222 : decode cL_law 222 = .ok (.iconst 2, 1) := by decide +kernel
theorem dL_law_223 : decode cL_law 223 = .ok (.iadd, 1) := by decide +kernel
theorem dL_law_224 : decode cL_law 224 = .ok (.iaload, 1) := by decide +kernel
theorem dL_law_225 : decode cL_law 225 = .ok (.invokevirtual 26, 3) := by decide +kernel
theorem dL_law_228 : decode cL_law 228 = .ok (.if_icmp .eq 628, 3) := by decide +kernel
theorem dL_law_231 : decode cL_law 231 = .ok (.iconst 0, 1) := by decide +kernel
theorem dL_law_232 : decode cL_law 232 = .ok (.ireturn, 1) := by decide +kernel
theorem dL_law_233 : decode cL_law 233 = .ok (.aload_n 1, 1) := by decide +kernel
theorem dL_law_234 : decode cL_law 234 = .ok (.aload_n 0, 1) := by decide +kernel
theorem dL_law_235 : decode cL_law 235 = .ok (.iload_n 3, 1) := by decide +kernel
theorem dL_law_236 : decode cL_law 236 = .ok (.iconst 1, 1) := by decide +kernel
theorem dL_law_237 : decode cL_law 237 = .ok (.iadd, 1) := by decide +kernel
theorem dL_law_238 : decode cL_law 238 = .ok (.iaload, 1) := by decide +kernel
theorem dL_law_239 : decode cL_law 239 = .ok (.aload_n 0, 1) := by decide +kernel
theorem dL_law_240 : decode cL_law 240 = .ok (.iload_n 3, 1) := by decide +kernel
theorem dL_law_241 : decode cL_law 241 = .ok (.iconst 2, 1) := by decide +kernel
theorem dL_law_242 : decode cL_law 242 = .ok (.iadd, 1) := by decide +kernel
theorem dL_law_243 : decode cL_law 243 = .ok (.iaload, 1) := by decide +kernel
theorem dL_law_244 : decode cL_law 244 = .ok (.aload_n 0, 1) := by decide +kernel
theorem dL_law_245 : decode cL_law 245 = .ok (.iload_n 3, 1) := by decide +kernel
theorem dL_law_246 : decode cL_law 246 = .ok (.iconst 3, 1) := by decide +kernel
theorem dL_law_247 : decode cL_law 247 = .ok (.iadd, 1) := by decide +kernel
theorem dL_law_248 : decode cL_law 248 = .ok (.iaload, 1) := by decide +kernel
theorem dL_law_249 : decode cL_law 249 = .ok (.aload_n 0, 1) := by decide +kernel
theorem dL_law_250 : decode cL_law 250 = .ok (.iload_n 3, 1) := by decide +kernel
theorem dL_law_251 : decode cL_law 251 = .ok (.iconst 4, 1) := by decide +kernel
theorem dL_law_252 : decode cL_law 252 = .ok (.iadd, 1) := by decide +kernel
theorem dL_law_253 : decode cL_law 253 = .ok (.iaload, 1) := by decide +kernel
theorem dL_law_254 : decode cL_law 254 = .ok (.invokevirtual 27, 3) := by decide +kernel
theorem dL_law_257 : decode cL_law 257 = .ok (.aload_n 2, 1) := by decide +kernel
theorem dL_law_258 : decode cL_law 258 = .ok (.aload_n 0, 1) := by decide +kernel
theorem dL_law_259 : decode cL_law 259 = .ok (.iload_n 3, 1) := by decide +kernel
theorem dL_law_260 : decode cL_law 260 = .ok (.iconst 1, 1) := by decide +kernel
theorem dL_law_261 : decode cL_law 261 = .ok (.iadd, 1) := by decide +kernel
theorem dL_law_262 : decode cL_law 262 = .ok (.iaload, 1) := by decide +kernel
theorem dL_law_263 : decode cL_law 263 = .ok (.aload_n 0, 1) := by decide +kernel
theorem dL_law_264 : decode cL_law 264 = .ok (.iload_n 3, 1) := by decide +kernel
theorem dL_law_265 : decode cL_law 265 = .ok (.iconst 2, 1) := by decide +kernel
theorem dL_law_266 : decode cL_law 266 = .ok (.iadd, 1) := by decide +kernel
theorem dL_law_267 : decode cL_law 267 = .ok (.iaload, 1) := by decide +kernel
theorem dL_law_268 : decode cL_law 268 = .ok (.aload_n 0, 1) := by decide +kernel
theorem dL_law_269 : decode cL_law 269 = .ok (.iload_n 3, 1) := by decide +kernel
theorem dL_law_270 : decode cL_law 270 = .ok (.iconst 3, 1) := by decide +kernel
theorem dL_law_271 : decode cL_law 271 = .ok (.iadd, 1) := by decide +kernel
theorem dL_law_272 : decode cL_law 272 = .ok (.iaload, 1) := by decide +kernel
theorem dL_law_273 : decode cL_law 273 = .ok (.aload_n 0, 1) := by decide +kernel
theorem dL_law_274 : decode cL_law 274 = .ok (.iload_n 3, 1) := by decide +kernel
theorem dL_law_275 : decode cL_law 275 = .ok (.iconst 4, 1) := by decide +kernel
theorem dL_law_276 : decode cL_law 276 = .ok (.iadd, 1) := by decide +kernel
theorem dL_law_277 : decode cL_law 277 = .ok (.iaload, 1) := by decide +kernel
theorem dL_law_278 : decode cL_law 278 = .ok (.invokevirtual 31, 3) := by decide +kernel
theorem dL_law_281 : decode cL_law 281 = .ok (.if_icmp .eq 575, 3) := by decide +kernel
theorem dL_law_284 : decode cL_law 284 = .ok (.iconst 0, 1) := by decide +kernel
theorem dL_law_285 : decode cL_law 285 = .ok (.ireturn, 1) := by decide +kernel
theorem dL_law_286 : decode cL_law 286 = .ok (.aload_n 1, 1) := by decide +kernel
theorem dL_law_287 : decode cL_law 287 = .ok (.aload_n 0, 1) := by decide +kernel
theorem dL_law_288 : decode cL_law 288 = .ok (.iload_n 3, 1) := by decide +kernel
theorem dL_law_289 : decode cL_law 289 = .ok (.iconst 1, 1) := by decide +kernel
theorem dL_law_290 : decode cL_law 290 = .ok (.iadd, 1) := by decide +kernel
theorem dL_law_291 : decode cL_law 291 = .ok (.iaload, 1) := by decide +kernel
theorem dL_law_292 : decode cL_law 292 = .ok (.aload_n 0, 1) := by decide +kernel
theorem dL_law_293 : decode cL_law 293 = .ok (.iload_n 3, 1) := by decide +kernel
theorem dL_law_294 : decode cL_law 294 = .ok (.iconst 2, 1) := by decide +kernel
theorem dL_law_295 : decode cL_law 295 = .ok (.iadd, 1) := by decide +kernel
theorem dL_law_296 : decode cL_law 296 = .ok (.iaload, 1) := by decide +kernel
theorem dL_law_297 : decode cL_law 297 = .ok (.invokevirtual 32, 3) := by decide +kernel
theorem dL_law_300 : decode cL_law 300 = .ok (.aload_n 2, 1) := by decide +kernel
theorem dL_law_301 : decode cL_law 301 = .ok (.aload_n 0, 1) := by decide +kernel
theorem dL_law_302 : decode cL_law 302 = .ok (.iload_n 3, 1) := by decide +kernel
theorem dL_law_303 : decode cL_law 303 = .ok (.iconst 1, 1) := by decide +kernel
theorem dL_law_304 : decode cL_law 304 = .ok (.iadd, 1) := by decide +kernel
theorem dL_law_305 : decode cL_law 305 = .ok (.iaload, 1) := by decide +kernel
theorem dL_law_306 : decode cL_law 306 = .ok (.aload_n 0, 1) := by decide +kernel
theorem dL_law_307 : decode cL_law 307 = .ok (.iload_n 3, 1) := by decide +kernel
theorem dL_law_308 : decode cL_law 308 = .ok (.iconst 2, 1) := by decide +kernel
theorem dL_law_309 : decode cL_law 309 = .ok (.iadd, 1) := by decide +kernel
theorem dL_law_310 : decode cL_law 310 = .ok (.iaload, 1) := by decide +kernel
theorem dL_law_311 : decode cL_law 311 = .ok (.invokevirtual 35, 3) := by decide +kernel
theorem dL_law_314 : decode cL_law 314 = .ok (.if_icmp .eq 542, 3) := by decide +kernel
theorem dL_law_317 : decode cL_law 317 = .ok (.iconst 0, 1) := by decide +kernel
theorem dL_law_318 : decode cL_law 318 = .ok (.ireturn, 1) := by decide +kernel
theorem dL_law_319 : decode cL_law 319 = .ok (.aload_n 1, 1) := by decide +kernel
theorem dL_law_320 : decode cL_law 320 = .ok (.aload_n 0, 1) := by decide +kernel
theorem dL_law_321 : decode cL_law 321 = .ok (.iload_n 3, 1) := by decide +kernel
theorem dL_law_322 : decode cL_law 322 = .ok (.iconst 1, 1) := by decide +kernel
theorem dL_law_323 : decode cL_law 323 = .ok (.iadd, 1) := by decide +kernel
theorem dL_law_324 : decode cL_law 324 = .ok (.iaload, 1) := by decide +kernel
theorem dL_law_325 : decode cL_law 325 = .ok (.aload_n 0, 1) := by decide +kernel
theorem dL_law_326 : decode cL_law 326 = .ok (.iload_n 3, 1) := by decide +kernel
theorem dL_law_327 : decode cL_law 327 = .ok (.iconst 2, 1) := by decide +kernel
theorem dL_law_328 : decode cL_law 328 = .ok (.iadd, 1) := by decide +kernel
theorem dL_law_329 : decode cL_law 329 = .ok (.iaload, 1) := by decide +kernel
theorem dL_law_330 : decode cL_law 330 = .ok (.aload_n 0, 1) := by decide +kernel
theorem dL_law_331 : decode cL_law 331 = .ok (.iload_n 3, 1) := by decide +kernel
theorem dL_law_332 : decode cL_law 332 = .ok (.iconst 3, 1) := by decide +kernel
theorem dL_law_333 : decode cL_law 333 = .ok (.iadd, 1) := by decide +kernel
theorem dL_law_334 : decode cL_law 334 = .ok (.iaload, 1) := by decide +kernel
theorem dL_law_335 : decode cL_law 335 = .ok (.invokevirtual 36, 3) := by decide +kernel
theorem dL_law_338 : decode cL_law 338 = .ok (.aload_n 2, 1) := by decide +kernel
theorem dL_law_339 : decode cL_law 339 = .ok (.aload_n 0, 1) := by decide +kernel
theorem dL_law_340 : decode cL_law 340 = .ok (.iload_n 3, 1) := by decide +kernel
theorem dL_law_341 : decode cL_law 341 = .ok (.iconst 1, 1) := by decide +kernel
theorem dL_law_342 : decode cL_law 342 = .ok (.iadd, 1) := by decide +kernel
theorem dL_law_343 : decode cL_law 343 = .ok (.iaload, 1) := by decide +kernel
theorem dL_law_344 : decode cL_law 344 = .ok (.aload_n 0, 1) := by decide +kernel
theorem dL_law_345 : decode cL_law 345 = .ok (.iload_n 3, 1) := by decide +kernel
theorem dL_law_346 : decode cL_law 346 = .ok (.iconst 2, 1) := by decide +kernel
theorem dL_law_347 : decode cL_law 347 = .ok (.iadd, 1) := by decide +kernel
theorem dL_law_348 : decode cL_law 348 = .ok (.iaload, 1) := by decide +kernel
theorem dL_law_349 : decode cL_law 349 = .ok (.aload_n 0, 1) := by decide +kernel
theorem dL_law_350 : decode cL_law 350 = .ok (.iload_n 3, 1) := by decide +kernel
theorem dL_law_351 : decode cL_law 351 = .ok (.iconst 3, 1) := by decide +kernel
theorem dL_law_352 : decode cL_law 352 = .ok (.iadd, 1) := by decide +kernel
theorem dL_law_353 : decode cL_law 353 = .ok (.iaload, 1) := by decide +kernel
theorem dL_law_354 : decode cL_law 354 = .ok (.invokevirtual 40, 3) := by decide +kernel
theorem dL_law_357 : decode cL_law 357 = .ok (.if_icmp .eq 499, 3) := by decide +kernel
theorem dL_law_360 : decode cL_law 360 = .ok (.iconst 0, 1) := by decide +kernel
theorem dL_law_361 : decode cL_law 361 = .ok (.ireturn, 1) := by decide +kernel
theorem dL_law_362 : decode cL_law 362 = .ok (.aload_n 1, 1) := by decide +kernel
theorem dL_law_363 : decode cL_law 363 = .ok (.aload_n 0, 1) := by decide +kernel
theorem dL_law_364 : decode cL_law 364 = .ok (.iload_n 3, 1) := by decide +kernel
theorem dL_law_365 : decode cL_law 365 = .ok (.iconst 1, 1) := by decide +kernel
theorem dL_law_366 : decode cL_law 366 = .ok (.iadd, 1) := by decide +kernel
theorem dL_law_367 : decode cL_law 367 = .ok (.iaload, 1) := by decide +kernel
theorem dL_law_368 : decode cL_law 368 = .ok (.aload_n 0, 1) := by decide +kernel
theorem dL_law_369 : decode cL_law 369 = .ok (.iload_n 3, 1) := by decide +kernel
theorem dL_law_370 : decode cL_law 370 = .ok (.iconst 2, 1) := by decide +kernel
theorem dL_law_371 : decode cL_law 371 = .ok (.iadd, 1) := by decide +kernel
theorem dL_law_372 : decode cL_law 372 = .ok (.iaload, 1) := by decide +kernel
theorem dL_law_373 : decode cL_law 373 = .ok (.invokevirtual 41, 3) := by decide +kernel
theorem dL_law_376 : decode cL_law 376 = .ok (.aload_n 2, 1) := by decide +kernel
theorem dL_law_377 : decode cL_law 377 = .ok (.aload_n 0, 1) := by decide +kernel
theorem dL_law_378 : decode cL_law 378 = .ok (.iload_n 3, 1) := by decide +kernel
theorem dL_law_379 : decode cL_law 379 = .ok (.iconst 1, 1) := by decide +kernel
theorem dL_law_380 : decode cL_law 380 = .ok (.iadd, 1) := by decide +kernel
theorem dL_law_381 : decode cL_law 381 = .ok (.iaload, 1) := by decide +kernel
theorem dL_law_382 : decode cL_law 382 = .ok (.aload_n 0, 1) := by decide +kernel
theorem dL_law_383 : decode cL_law 383 = .ok (.iload_n 3, 1) := by decide +kernel
theorem dL_law_384 : decode cL_law 384 = .ok (.iconst 2, 1) := by decide +kernel
theorem dL_law_385 : decode cL_law 385 = .ok (.iadd, 1) := by decide +kernel
theorem dL_law_386 : decode cL_law 386 = .ok (.iaload, 1) := by decide +kernel
theorem dL_law_387 : decode cL_law 387 = .ok (.invokevirtual 44, 3) := by decide +kernel
theorem dL_law_390 : decode cL_law 390 = .ok (.if_icmp .eq 466, 3) := by decide +kernel
theorem dL_law_393 : decode cL_law 393 = .ok (.iconst 0, 1) := by decide +kernel
theorem dL_law_394 : decode cL_law 394 = .ok (.ireturn, 1) := by decide +kernel
theorem dL_law_395 : decode cL_law 395 = .ok (.aload_n 1, 1) := by decide +kernel
theorem dL_law_396 : decode cL_law 396 = .ok (.aload_n 0, 1) := by decide +kernel
theorem dL_law_397 : decode cL_law 397 = .ok (.iload_n 3, 1) := by decide +kernel
theorem dL_law_398 : decode cL_law 398 = .ok (.iconst 1, 1) := by decide +kernel
theorem dL_law_399 : decode cL_law 399 = .ok (.iadd, 1) := by decide +kernel
theorem dL_law_400 : decode cL_law 400 = .ok (.iaload, 1) := by decide +kernel
theorem dL_law_401 : decode cL_law 401 = .ok (.aload_n 0, 1) := by decide +kernel
theorem dL_law_402 : decode cL_law 402 = .ok (.iload_n 3, 1) := by decide +kernel
theorem dL_law_403 : decode cL_law 403 = .ok (.iconst 2, 1) := by decide +kernel
theorem dL_law_404 : decode cL_law 404 = .ok (.iadd, 1) := by decide +kernel
theorem dL_law_405 : decode cL_law 405 = .ok (.iaload, 1) := by decide +kernel
theorem dL_law_406 : decode cL_law 406 = .ok (.invokevirtual 45, 3) := by decide +kernel
theorem dL_law_409 : decode cL_law 409 = .ok (.aload_n 2, 1) := by decide +kernel
theorem dL_law_410 : decode cL_law 410 = .ok (.aload_n 0, 1) := by decide +kernel
theorem dL_law_411 : decode cL_law 411 = .ok (.iload_n 3, 1) := by decide +kernel
theorem dL_law_412 : decode cL_law 412 = .ok (.iconst 1, 1) := by decide +kernel
theorem dL_law_413 : decode cL_law 413 = .ok (.iadd, 1) := by decide +kernel
theorem dL_law_414 : decode cL_law 414 = .ok (.iaload, 1) := by decide +kernel
theorem dL_law_415 : decode cL_law 415 = .ok (.aload_n 0, 1) := by decide +kernel
theorem dL_law_416 : decode cL_law 416 = .ok (.iload_n 3, 1) := by decide +kernel
theorem dL_law_417 : decode cL_law 417 = .ok (.iconst 2, 1) := by decide +kernel
theorem dL_law_418 : decode cL_law 418 = .ok (.iadd, 1) := by decide +kernel
theorem dL_law_419 : decode cL_law 419 = .ok (.iaload, 1) := by decide +kernel
theorem dL_law_420 : decode cL_law 420 = .ok (.invokevirtual 48, 3) := by decide +kernel
theorem dL_law_423 : decode cL_law 423 = .ok (.if_icmp .eq 433, 3) := by decide +kernel
theorem dL_law_426 : decode cL_law 426 = .ok (.iconst 0, 1) := by decide +kernel
theorem dL_law_427 : decode cL_law 427 = .ok (.ireturn, 1) := by decide +kernel
theorem dL_law_428 : decode cL_law 428 = .ok (.aload_n 1, 1) := by decide +kernel
theorem dL_law_429 : decode cL_law 429 = .ok (.aload_n 0, 1) := by decide +kernel
theorem dL_law_430 : decode cL_law 430 = .ok (.iload_n 3, 1) := by decide +kernel
theorem dL_law_431 : decode cL_law 431 = .ok (.iconst 1, 1) := by decide +kernel
theorem dL_law_432 : decode cL_law 432 = .ok (.iadd, 1) := by decide +kernel
theorem dL_law_433 : decode cL_law 433 = .ok (.iaload, 1) := by decide +kernel
theorem dL_law_434 : decode cL_law 434 = .ok (.aload_n 0, 1) := by decide +kernel
theorem dL_law_435 : decode cL_law 435 = .ok (.iload_n 3, 1) := by decide +kernel
theorem dL_law_436 : decode cL_law 436 = .ok (.iconst 2, 1) := by decide +kernel
theorem dL_law_437 : decode cL_law 437 = .ok (.iadd, 1) := by decide +kernel
theorem dL_law_438 : decode cL_law 438 = .ok (.iaload, 1) := by decide +kernel
theorem dL_law_439 : decode cL_law 439 = .ok (.invokevirtual 49, 3) := by decide +kernel
theorem dL_law_442 : decode cL_law 442 = .ok (.aload_n 2, 1) := by decide +kernel
theorem dL_law_443 : decode cL_law 443 = .ok (.aload_n 0, 1) := by decide +kernel
theorem dL_law_444 : decode cL_law 444 = .ok (.iload_n 3, 1) := by decide +kernel
theorem dL_law_445 : decode cL_law 445 = .ok (.iconst 1, 1) := by decide +kernel
theorem dL_law_446 : decode cL_law 446 = .ok (.iadd, 1) := by decide +kernel
theorem dL_law_447 : decode cL_law 447 = .ok (.iaload, 1) := by decide +kernel
theorem dL_law_448 : decode cL_law 448 = .ok (.aload_n 0, 1) := by decide +kernel
theorem dL_law_449 : decode cL_law 449 = .ok (.iload_n 3, 1) := by decide +kernel
theorem dL_law_450 : decode cL_law 450 = .ok (.iconst 2, 1) := by decide +kernel
theorem dL_law_451 : decode cL_law 451 = .ok (.iadd, 1) := by decide +kernel
theorem dL_law_452 : decode cL_law 452 = .ok (.iaload, 1) := by decide +kernel
theorem dL_law_453 : decode cL_law 453 = .ok (.invokevirtual 52, 3) := by decide +kernel
theorem dL_law_456 : decode cL_law 456 = .ok (.if_icmp .eq 400, 3) := by decide +kernel
theorem dL_law_459 : decode cL_law 459 = .ok (.iconst 0, 1) := by decide +kernel
theorem dL_law_460 : decode cL_law 460 = .ok (.ireturn, 1) := by decide +kernel
theorem dL_law_461 : decode cL_law 461 = .ok (.aload_n 1, 1) := by decide +kernel
theorem dL_law_462 : decode cL_law 462 = .ok (.aload_n 0, 1) := by decide +kernel
theorem dL_law_463 : decode cL_law 463 = .ok (.iload_n 3, 1) := by decide +kernel
theorem dL_law_464 : decode cL_law 464 = .ok (.iconst 1, 1) := by decide +kernel
theorem dL_law_465 : decode cL_law 465 = .ok (.iadd, 1) := by decide +kernel
theorem dL_law_466 : decode cL_law 466 = .ok (.iaload, 1) := by decide +kernel
theorem dL_law_467 : decode cL_law 467 = .ok (.invokevirtual 53, 3) := by decide +kernel
theorem dL_law_470 : decode cL_law 470 = .ok (.aload_n 2, 1) := by decide +kernel
theorem dL_law_471 : decode cL_law 471 = .ok (.aload_n 0, 1) := by decide +kernel
theorem dL_law_472 : decode cL_law 472 = .ok (.iload_n 3, 1) := by decide +kernel
theorem dL_law_473 : decode cL_law 473 = .ok (.iconst 1, 1) := by decide +kernel
theorem dL_law_474 : decode cL_law 474 = .ok (.iadd, 1) := by decide +kernel
theorem dL_law_475 : decode cL_law 475 = .ok (.iaload, 1) := by decide +kernel
theorem dL_law_476 : decode cL_law 476 = .ok (.invokevirtual 56, 3) := by decide +kernel
theorem dL_law_479 : decode cL_law 479 = .ok (.if_icmp .eq 377, 3) := by decide +kernel
theorem dL_law_482 : decode cL_law 482 = .ok (.iconst 0, 1) := by decide +kernel
theorem dL_law_483 : decode cL_law 483 = .ok (.ireturn, 1) := by decide +kernel
theorem dL_law_484 : decode cL_law 484 = .ok (.aload_n 1, 1) := by decide +kernel
theorem dL_law_485 : decode cL_law 485 = .ok (.aload_n 0, 1) := by decide +kernel
theorem dL_law_486 : decode cL_law 486 = .ok (.iload_n 3, 1) := by decide +kernel
theorem dL_law_487 : decode cL_law 487 = .ok (.iconst 1, 1) := by decide +kernel
theorem dL_law_488 : decode cL_law 488 = .ok (.iadd, 1) := by decide +kernel
theorem dL_law_489 : decode cL_law 489 = .ok (.iaload, 1) := by decide +kernel
theorem dL_law_490 : decode cL_law 490 = .ok (.invokevirtual 57, 3) := by decide +kernel
theorem dL_law_493 : decode cL_law 493 = .ok (.aload_n 2, 1) := by decide +kernel
theorem dL_law_494 : decode cL_law 494 = .ok (.aload_n 0, 1) := by decide +kernel
theorem dL_law_495 : decode cL_law 495 = .ok (.iload_n 3, 1) := by decide +kernel
theorem dL_law_496 : decode cL_law 496 = .ok (.iconst 1, 1) := by decide +kernel
theorem dL_law_497 : decode cL_law 497 = .ok (.iadd, 1) := by decide +kernel
theorem dL_law_498 : decode cL_law 498 = .ok (.iaload, 1) := by decide +kernel
theorem dL_law_499 : decode cL_law 499 = .ok (.invokevirtual 60, 3) := by decide +kernel
theorem dL_law_502 : decode cL_law 502 = .ok (.if_icmp .eq 354, 3) := by decide +kernel
theorem dL_law_505 : decode cL_law 505 = .ok (.iconst 0, 1) := by decide +kernel
theorem dL_law_506 : decode cL_law 506 = .ok (.ireturn, 1) := by decide +kernel
theorem dL_law_507 : decode cL_law 507 = .ok (.aload_n 1, 1) := by decide +kernel
theorem dL_law_508 : decode cL_law 508 = .ok (.aload_n 0, 1) := by decide +kernel
theorem dL_law_509 : decode cL_law 509 = .ok (.iload_n 3, 1) := by decide +kernel
theorem dL_law_510 : decode cL_law 510 = .ok (.iconst 1, 1) := by decide +kernel
theorem dL_law_511 : decode cL_law 511 = .ok (.iadd, 1) := by decide +kernel
theorem dL_law_512 : decode cL_law 512 = .ok (.iaload, 1) := by decide +kernel
theorem dL_law_513 : decode cL_law 513 = .ok (.invokevirtual 61, 3) := by decide +kernel
theorem dL_law_516 : decode cL_law 516 = .ok (.aload_n 2, 1) := by decide +kernel
theorem dL_law_517 : decode cL_law 517 = .ok (.aload_n 0, 1) := by decide +kernel
theorem dL_law_518 : decode cL_law 518 = .ok (.iload_n 3, 1) := by decide +kernel
theorem dL_law_519 : decode cL_law 519 = .ok (.iconst 1, 1) := by decide +kernel
theorem dL_law_520 : decode cL_law 520 = .ok (.iadd, 1) := by decide +kernel
theorem dL_law_521 : decode cL_law 521 = .ok (.iaload, 1) := by decide +kernel
theorem dL_law_522 : decode cL_law 522 = .ok (.invokevirtual 64, 3) := by decide +kernel
theorem dL_law_525 : decode cL_law 525 = .ok (.if_icmp .eq 331, 3) := by decide +kernel
theorem dL_law_528 : decode cL_law 528 = .ok (.iconst 0, 1) := by decide +kernel
theorem dL_law_529 : decode cL_law 529 = .ok (.ireturn, 1) := by decide +kernel
theorem dL_law_530 : decode cL_law 530 = .ok (.aload_n 1, 1) := by decide +kernel
theorem dL_law_531 : decode cL_law 531 = .ok (.aload_n 0, 1) := by decide +kernel
theorem dL_law_532 : decode cL_law 532 = .ok (.iload_n 3, 1) := by decide +kernel
theorem dL_law_533 : decode cL_law 533 = .ok (.iconst 1, 1) := by decide +kernel
theorem dL_law_534 : decode cL_law 534 = .ok (.iadd, 1) := by decide +kernel
theorem dL_law_535 : decode cL_law 535 = .ok (.iaload, 1) := by decide +kernel
theorem dL_law_536 : decode cL_law 536 = .ok (.aload_n 0, 1) := by decide +kernel
theorem dL_law_537 : decode cL_law 537 = .ok (.iload_n 3, 1) := by decide +kernel
theorem dL_law_538 : decode cL_law 538 = .ok (.iconst 2, 1) := by decide +kernel
theorem dL_law_539 : decode cL_law 539 = .ok (.iadd, 1) := by decide +kernel
theorem dL_law_540 : decode cL_law 540 = .ok (.iaload, 1) := by decide +kernel
theorem dL_law_541 : decode cL_law 541 = .ok (.invokevirtual 65, 3) := by decide +kernel
theorem dL_law_544 : decode cL_law 544 = .ok (.aload_n 2, 1) := by decide +kernel
theorem dL_law_545 : decode cL_law 545 = .ok (.aload_n 0, 1) := by decide +kernel
theorem dL_law_546 : decode cL_law 546 = .ok (.iload_n 3, 1) := by decide +kernel
theorem dL_law_547 : decode cL_law 547 = .ok (.iconst 1, 1) := by decide +kernel
theorem dL_law_548 : decode cL_law 548 = .ok (.iadd, 1) := by decide +kernel
theorem dL_law_549 : decode cL_law 549 = .ok (.iaload, 1) := by decide +kernel
theorem dL_law_550 : decode cL_law 550 = .ok (.aload_n 0, 1) := by decide +kernel
theorem dL_law_551 : decode cL_law 551 = .ok (.iload_n 3, 1) := by decide +kernel
theorem dL_law_552 : decode cL_law 552 = .ok (.iconst 2, 1) := by decide +kernel
theorem dL_law_553 : decode cL_law 553 = .ok (.iadd, 1) := by decide +kernel
theorem dL_law_554 : decode cL_law 554 = .ok (.iaload, 1) := by decide +kernel
theorem dL_law_555 : decode cL_law 555 = .ok (.invokevirtual 68, 3) := by decide +kernel
theorem dL_law_558 : decode cL_law 558 = .ok (.if_icmp .eq 298, 3) := by decide +kernel
theorem dL_law_561 : decode cL_law 561 = .ok (.iconst 0, 1) := by decide +kernel
theorem dL_law_562 : decode cL_law 562 = .ok (.ireturn, 1) := by decide +kernel
theorem dL_law_563 : decode cL_law 563 = .ok (.aload_n 1, 1) := by decide +kernel
theorem dL_law_564 : decode cL_law 564 = .ok (.aload_n 0, 1) := by decide +kernel
theorem dL_law_565 : decode cL_law 565 = .ok (.iload_n 3, 1) := by decide +kernel
theorem dL_law_566 : decode cL_law 566 = .ok (.iconst 1, 1) := by decide +kernel
theorem dL_law_567 : decode cL_law 567 = .ok (.iadd, 1) := by decide +kernel
theorem dL_law_568 : decode cL_law 568 = .ok (.iaload, 1) := by decide +kernel
theorem dL_law_569 : decode cL_law 569 = .ok (.invokevirtual 69, 3) := by decide +kernel
theorem dL_law_572 : decode cL_law 572 = .ok (.aload_n 2, 1) := by decide +kernel
theorem dL_law_573 : decode cL_law 573 = .ok (.aload_n 0, 1) := by decide +kernel
theorem dL_law_574 : decode cL_law 574 = .ok (.iload_n 3, 1) := by decide +kernel
theorem dL_law_575 : decode cL_law 575 = .ok (.iconst 1, 1) := by decide +kernel
theorem dL_law_576 : decode cL_law 576 = .ok (.iadd, 1) := by decide +kernel
theorem dL_law_577 : decode cL_law 577 = .ok (.iaload, 1) := by decide +kernel
theorem dL_law_578 : decode cL_law 578 = .ok (.invokevirtual 72, 3) := by decide +kernel
theorem dL_law_581 : decode cL_law 581 = .ok (.if_icmp .eq 275, 3) := by decide +kernel
theorem dL_law_584 : decode cL_law 584 = .ok (.iconst 0, 1) := by decide +kernel
theorem dL_law_585 : decode cL_law 585 = .ok (.ireturn, 1) := by decide +kernel
theorem dL_law_586 : decode cL_law 586 = .ok (.aload_n 1, 1) := by decide +kernel
theorem dL_law_587 : decode cL_law 587 = .ok (.aload_n 0, 1) := by decide +kernel
theorem dL_law_588 : decode cL_law 588 = .ok (.iload_n 3, 1) := by decide +kernel
theorem dL_law_589 : decode cL_law 589 = .ok (.iconst 1, 1) := by decide +kernel
theorem dL_law_590 : decode cL_law 590 = .ok (.iadd, 1) := by decide +kernel
theorem dL_law_591 : decode cL_law 591 = .ok (.iaload, 1) := by decide +kernel
theorem dL_law_592 : decode cL_law 592 = .ok (.aload_n 0, 1) := by decide +kernel
theorem dL_law_593 : decode cL_law 593 = .ok (.iload_n 3, 1) := by decide +kernel
theorem dL_law_594 : decode cL_law 594 = .ok (.iconst 2, 1) := by decide +kernel
theorem dL_law_595 : decode cL_law 595 = .ok (.iadd, 1) := by decide +kernel
theorem dL_law_596 : decode cL_law 596 = .ok (.iaload, 1) := by decide +kernel
theorem dL_law_597 : decode cL_law 597 = .ok (.invokevirtual 73, 3) := by decide +kernel
theorem dL_law_600 : decode cL_law 600 = .ok (.aload_n 2, 1) := by decide +kernel
theorem dL_law_601 : decode cL_law 601 = .ok (.aload_n 0, 1) := by decide +kernel
theorem dL_law_602 : decode cL_law 602 = .ok (.iload_n 3, 1) := by decide +kernel
theorem dL_law_603 : decode cL_law 603 = .ok (.iconst 1, 1) := by decide +kernel
theorem dL_law_604 : decode cL_law 604 = .ok (.iadd, 1) := by decide +kernel
theorem dL_law_605 : decode cL_law 605 = .ok (.iaload, 1) := by decide +kernel
theorem dL_law_606 : decode cL_law 606 = .ok (.aload_n 0, 1) := by decide +kernel
theorem dL_law_607 : decode cL_law 607 = .ok (.iload_n 3, 1) := by decide +kernel
theorem dL_law_608 : decode cL_law 608 = .ok (.iconst 2, 1) := by decide +kernel
theorem dL_law_609 : decode cL_law 609 = .ok (.iadd, 1) := by decide +kernel
theorem dL_law_610 : decode cL_law 610 = .ok (.iaload, 1) := by decide +kernel
theorem dL_law_611 : decode cL_law 611 = .ok (.invokevirtual 76, 3) := by decide +kernel
theorem dL_law_614 : decode cL_law 614 = .ok (.if_icmp .eq 242, 3) := by decide +kernel
theorem dL_law_617 : decode cL_law 617 = .ok (.iconst 0, 1) := by decide +kernel
theorem dL_law_618 : decode cL_law 618 = .ok (.ireturn, 1) := by decide +kernel
theorem dL_law_619 : decode cL_law 619 = .ok (.aload_n 1, 1) := by decide +kernel
theorem dL_law_620 : decode cL_law 620 = .ok (.aload_n 0, 1) := by decide +kernel
theorem dL_law_621 : decode cL_law 621 = .ok (.iload_n 3, 1) := by decide +kernel
theorem dL_law_622 : decode cL_law 622 = .ok (.iconst 1, 1) := by decide +kernel
theorem dL_law_623 : decode cL_law 623 = .ok (.iadd, 1) := by decide +kernel
theorem dL_law_624 : decode cL_law 624 = .ok (.iaload, 1) := by decide +kernel
theorem dL_law_625 : decode cL_law 625 = .ok (.aload_n 0, 1) := by decide +kernel
theorem dL_law_626 : decode cL_law 626 = .ok (.iload_n 3, 1) := by decide +kernel
theorem dL_law_627 : decode cL_law 627 = .ok (.iconst 2, 1) := by decide +kernel
theorem dL_law_628 : decode cL_law 628 = .ok (.iadd, 1) := by decide +kernel
theorem dL_law_629 : decode cL_law 629 = .ok (.iaload, 1) := by decide +kernel
theorem dL_law_630 : decode cL_law 630 = .ok (.invokevirtual 77, 3) := by decide +kernel
theorem dL_law_633 : decode cL_law 633 = .ok (.aload_n 2, 1) := by decide +kernel
theorem dL_law_634 : decode cL_law 634 = .ok (.aload_n 0, 1) := by decide +kernel
theorem dL_law_635 : decode cL_law 635 = .ok (.iload_n 3, 1) := by decide +kernel
theorem dL_law_636 : decode cL_law 636 = .ok (.iconst 1, 1) := by decide +kernel
theorem dL_law_637 : decode cL_law 637 = .ok (.iadd, 1) := by decide +kernel
theorem dL_law_638 : decode cL_law 638 = .ok (.iaload, 1) := by decide +kernel
theorem dL_law_639 : decode cL_law 639 = .ok (.aload_n 0, 1) := by decide +kernel
theorem dL_law_640 : decode cL_law 640 = .ok (.iload_n 3, 1) := by decide +kernel
theorem dL_law_641 : decode cL_law 641 = .ok (.iconst 2, 1) := by decide +kernel
theorem dL_law_642 : decode cL_law 642 = .ok (.iadd, 1) := by decide +kernel
theorem dL_law_643 : decode cL_law 643 = .ok (.iaload, 1) := by decide +kernel
theorem dL_law_644 : decode cL_law 644 = .ok (.invokevirtual 80, 3) := by decide +kernel
theorem dL_law_647 : decode cL_law 647 = .ok (.if_icmp .eq 209, 3) := by decide +kernel
theorem dL_law_650 : decode cL_law 650 = .ok (.iconst 0, 1) := by decide +kernel
theorem dL_law_651 : decode cL_law 651 = .ok (.ireturn, 1) := by decide +kernel
theorem dL_law_652 : decode cL_law 652 = .ok (.aload_n 1, 1) := by decide +kernel
theorem dL_law_653 : decode cL_law 653 = .ok (.aload_n 0, 1) := by decide +kernel
theorem dL_law_654 : decode cL_law 654 = .ok (.iload_n 3, 1) := by decide +kernel
theorem dL_law_655 : decode cL_law 655 = .ok (.iconst 1, 1) := by decide +kernel
theorem dL_law_656 : decode cL_law 656 = .ok (.iadd, 1) := by decide +kernel
theorem dL_law_657 : decode cL_law 657 = .ok (.iaload, 1) := by decide +kernel
theorem dL_law_658 : decode cL_law 658 = .ok (.aload_n 0, 1) := by decide +kernel
theorem dL_law_659 : decode cL_law 659 = .ok (.iload_n 3, 1) := by decide +kernel
theorem dL_law_660 : decode cL_law 660 = .ok (.iconst 2, 1) := by decide +kernel
theorem dL_law_661 : decode cL_law 661 = .ok (.iadd, 1) := by decide +kernel
theorem dL_law_662 : decode cL_law 662 = .ok (.iaload, 1) := by decide +kernel
theorem dL_law_663 : decode cL_law 663 = .ok (.invokevirtual 81, 3) := by decide +kernel
theorem dL_law_666 : decode cL_law 666 = .ok (.aload_n 2, 1) := by decide +kernel
theorem dL_law_667 : decode cL_law 667 = .ok (.aload_n 0, 1) := by decide +kernel
theorem dL_law_668 : decode cL_law 668 = .ok (.iload_n 3, 1) := by decide +kernel
theorem dL_law_669 : decode cL_law 669 = .ok (.iconst 1, 1) := by decide +kernel
theorem dL_law_670 : decode cL_law 670 = .ok (.iadd, 1) := by decide +kernel
theorem dL_law_671 : decode cL_law 671 = .ok (.iaload, 1) := by decide +kernel
theorem dL_law_672 : decode cL_law 672 = .ok (.aload_n 0, 1) := by decide +kernel
theorem dL_law_673 : decode cL_law 673 = .ok (.iload_n 3, 1) := by decide +kernel
theorem dL_law_674 : decode cL_law 674 = .ok (.iconst 2, 1) := by decide +kernel
theorem dL_law_675 : decode cL_law 675 = .ok (.iadd, 1) := by decide +kernel
theorem dL_law_676 : decode cL_law 676 = .ok (.iaload, 1) := by decide +kernel
theorem dL_law_677 : decode cL_law 677 = .ok (.invokevirtual 84, 3) := by decide +kernel
theorem dL_law_680 : decode cL_law 680 = .ok (.if_icmp .eq 176, 3) := by decide +kernel
theorem dL_law_683 : decode cL_law 683 = .ok (.iconst 0, 1) := by decide +kernel
theorem dL_law_684 : decode cL_law 684 = .ok (.ireturn, 1) := by decide +kernel
theorem dL_law_685 : decode cL_law 685 = .ok (.aload_n 1, 1) := by decide +kernel
theorem dL_law_686 : decode cL_law 686 = .ok (.aload_n 0, 1) := by decide +kernel
theorem dL_law_687 : decode cL_law 687 = .ok (.iload_n 3, 1) := by decide +kernel
theorem dL_law_688 : decode cL_law 688 = .ok (.iconst 1, 1) := by decide +kernel
theorem dL_law_689 : decode cL_law 689 = .ok (.iadd, 1) := by decide +kernel
theorem dL_law_690 : decode cL_law 690 = .ok (.iaload, 1) := by decide +kernel
theorem dL_law_691 : decode cL_law 691 = .ok (.aload_n 0, 1) := by decide +kernel
theorem dL_law_692 : decode cL_law 692 = .ok (.iload_n 3, 1) := by decide +kernel
theorem dL_law_693 : decode cL_law 693 = .ok (.iconst 2, 1) := by decide +kernel
theorem dL_law_694 : decode cL_law 694 = .ok (.iadd, 1) := by decide +kernel
theorem dL_law_695 : decode cL_law 695 = .ok (.iaload, 1) := by decide +kernel
theorem dL_law_696 : decode cL_law 696 = .ok (.invokevirtual 85, 3) := by decide +kernel
theorem dL_law_699 : decode cL_law 699 = .ok (.aload_n 2, 1) := by decide +kernel
theorem dL_law_700 : decode cL_law 700 = .ok (.aload_n 0, 1) := by decide +kernel
theorem dL_law_701 : decode cL_law 701 = .ok (.iload_n 3, 1) := by decide +kernel
theorem dL_law_702 : decode cL_law 702 = .ok (.iconst 1, 1) := by decide +kernel
theorem dL_law_703 : decode cL_law 703 = .ok (.iadd, 1) := by decide +kernel
theorem dL_law_704 : decode cL_law 704 = .ok (.iaload, 1) := by decide +kernel
theorem dL_law_705 : decode cL_law 705 = .ok (.aload_n 0, 1) := by decide +kernel
theorem dL_law_706 : decode cL_law 706 = .ok (.iload_n 3, 1) := by decide +kernel
theorem dL_law_707 : decode cL_law 707 = .ok (.iconst 2, 1) := by decide +kernel
theorem dL_law_708 : decode cL_law 708 = .ok (.iadd, 1) := by decide +kernel
theorem dL_law_709 : decode cL_law 709 = .ok (.iaload, 1) := by decide +kernel
theorem dL_law_710 : decode cL_law 710 = .ok (.invokevirtual 88, 3) := by decide +kernel
theorem dL_law_713 : decode cL_law 713 = .ok (.if_icmp .eq 143, 3) := by decide +kernel
theorem dL_law_716 : decode cL_law 716 = .ok (.iconst 0, 1) := by decide +kernel
theorem dL_law_717 : decode cL_law 717 = .ok (.ireturn, 1) := by decide +kernel
theorem dL_law_718 : decode cL_law 718 = .ok (.aload_n 1, 1) := by decide +kernel
theorem dL_law_719 : decode cL_law 719 = .ok (.aload_n 0, 1) := by decide +kernel
theorem dL_law_720 : decode cL_law 720 = .ok (.iload_n 3, 1) := by decide +kernel
theorem dL_law_721 : decode cL_law 721 = .ok (.iconst 1, 1) := by decide +kernel
theorem dL_law_722 : decode cL_law 722 = .ok (.iadd, 1) := by decide +kernel
theorem dL_law_723 : decode cL_law 723 = .ok (.iaload, 1) := by decide +kernel
theorem dL_law_724 : decode cL_law 724 = .ok (.invokevirtual 89, 3) := by decide +kernel
theorem dL_law_727 : decode cL_law 727 = .ok (.aload_n 2, 1) := by decide +kernel
theorem dL_law_728 : decode cL_law 728 = .ok (.aload_n 0, 1) := by decide +kernel
theorem dL_law_729 : decode cL_law 729 = .ok (.iload_n 3, 1) := by decide +kernel
theorem dL_law_730 : decode cL_law 730 = .ok (.iconst 1, 1) := by decide +kernel
theorem dL_law_731 : decode cL_law 731 = .ok (.iadd, 1) := by decide +kernel
theorem dL_law_732 : decode cL_law 732 = .ok (.iaload, 1) := by decide +kernel
theorem dL_law_733 : decode cL_law 733 = .ok (.invokevirtual 92, 3) := by decide +kernel
theorem dL_law_736 : decode cL_law 736 = .ok (.if_icmp .eq 120, 3) := by decide +kernel
theorem dL_law_739 : decode cL_law 739 = .ok (.iconst 0, 1) := by decide +kernel
theorem dL_law_740 : decode cL_law 740 = .ok (.ireturn, 1) := by decide +kernel
theorem dL_law_741 : decode cL_law 741 = .ok (.aload_n 1, 1) := by decide +kernel
theorem dL_law_742 : decode cL_law 742 = .ok (.aload_n 0, 1) := by decide +kernel
theorem dL_law_743 : decode cL_law 743 = .ok (.iload_n 3, 1) := by decide +kernel
theorem dL_law_744 : decode cL_law 744 = .ok (.iconst 1, 1) := by decide +kernel
theorem dL_law_745 : decode cL_law 745 = .ok (.iadd, 1) := by decide +kernel
theorem dL_law_746 : decode cL_law 746 = .ok (.iaload, 1) := by decide +kernel
theorem dL_law_747 : decode cL_law 747 = .ok (.invokevirtual 93, 3) := by decide +kernel
theorem dL_law_750 : decode cL_law 750 = .ok (.aload_n 2, 1) := by decide +kernel
theorem dL_law_751 : decode cL_law 751 = .ok (.aload_n 0, 1) := by decide +kernel
theorem dL_law_752 : decode cL_law 752 = .ok (.iload_n 3, 1) := by decide +kernel
theorem dL_law_753 : decode cL_law 753 = .ok (.iconst 1, 1) := by decide +kernel
theorem dL_law_754 : decode cL_law 754 = .ok (.iadd, 1) := by decide +kernel
theorem dL_law_755 : decode cL_law 755 = .ok (.iaload, 1) := by decide +kernel
theorem dL_law_756 : decode cL_law 756 = .ok (.invokevirtual 96, 3) := by decide +kernel
theorem dL_law_759 : decode cL_law 759 = .ok (.if_icmp .eq 97, 3) := by decide +kernel
theorem dL_law_762 : decode cL_law 762 = .ok (.iconst 0, 1) := by decide +kernel
theorem dL_law_763 : decode cL_law 763 = .ok (.ireturn, 1) := by decide +kernel
theorem dL_law_764 : decode cL_law 764 = .ok (.aload_n 1, 1) := by decide +kernel
theorem dL_law_765 : decode cL_law 765 = .ok (.aload_n 0, 1) := by decide +kernel
theorem dL_law_766 : decode cL_law 766 = .ok (.iload_n 3, 1) := by decide +kernel
theorem dL_law_767 : decode cL_law 767 = .ok (.iconst 1, 1) := by decide +kernel
theorem dL_law_768 : decode cL_law 768 = .ok (.iadd, 1) := by decide +kernel
theorem dL_law_769 : decode cL_law 769 = .ok (.iaload, 1) := by decide +kernel
theorem dL_law_770 : decode cL_law 770 = .ok (.invokevirtual 97, 3) := by decide +kernel
theorem dL_law_773 : decode cL_law 773 = .ok (.aload_n 2, 1) := by decide +kernel
theorem dL_law_774 : decode cL_law 774 = .ok (.aload_n 0, 1) := by decide +kernel
theorem dL_law_775 : decode cL_law 775 = .ok (.iload_n 3, 1) := by decide +kernel
theorem dL_law_776 : decode cL_law 776 = .ok (.iconst 1, 1) := by decide +kernel
theorem dL_law_777 : decode cL_law 777 = .ok (.iadd, 1) := by decide +kernel
theorem dL_law_778 : decode cL_law 778 = .ok (.iaload, 1) := by decide +kernel
theorem dL_law_779 : decode cL_law 779 = .ok (.invokevirtual 100, 3) := by decide +kernel
theorem dL_law_782 : decode cL_law 782 = .ok (.if_icmp .eq 74, 3) := by decide +kernel
theorem dL_law_785 : decode cL_law 785 = .ok (.iconst 0, 1) := by decide +kernel
theorem dL_law_786 : decode cL_law 786 = .ok (.ireturn, 1) := by decide +kernel
theorem dL_law_787 : decode cL_law 787 = .ok (.aload_n 1, 1) := by decide +kernel
theorem dL_law_788 : decode cL_law 788 = .ok (.aload_n 0, 1) := by decide +kernel
theorem dL_law_789 : decode cL_law 789 = .ok (.iload_n 3, 1) := by decide +kernel
theorem dL_law_790 : decode cL_law 790 = .ok (.iconst 1, 1) := by decide +kernel
theorem dL_law_791 : decode cL_law 791 = .ok (.iadd, 1) := by decide +kernel
theorem dL_law_792 : decode cL_law 792 = .ok (.iaload, 1) := by decide +kernel
theorem dL_law_793 : decode cL_law 793 = .ok (.invokevirtual 101, 3) := by decide +kernel
theorem dL_law_796 : decode cL_law 796 = .ok (.aload_n 2, 1) := by decide +kernel
theorem dL_law_797 : decode cL_law 797 = .ok (.aload_n 0, 1) := by decide +kernel
theorem dL_law_798 : decode cL_law 798 = .ok (.iload_n 3, 1) := by decide +kernel
theorem dL_law_799 : decode cL_law 799 = .ok (.iconst 1, 1) := by decide +kernel
theorem dL_law_800 : decode cL_law 800 = .ok (.iadd, 1) := by decide +kernel
theorem dL_law_801 : decode cL_law 801 = .ok (.iaload, 1) := by decide +kernel
theorem dL_law_802 : decode cL_law 802 = .ok (.invokevirtual 104, 3) := by decide +kernel
theorem dL_law_805 : decode cL_law 805 = .ok (.if_icmp .eq 51, 3) := by decide +kernel
theorem dL_law_808 : decode cL_law 808 = .ok (.iconst 0, 1) := by decide +kernel
theorem dL_law_809 : decode cL_law 809 = .ok (.ireturn, 1) := by decide +kernel
theorem dL_law_810 : decode cL_law 810 = .ok (.aload_n 1, 1) := by decide +kernel
theorem dL_law_811 : decode cL_law 811 = .ok (.aload_n 0, 1) := by decide +kernel
theorem dL_law_812 : decode cL_law 812 = .ok (.iload_n 3, 1) := by decide +kernel
theorem dL_law_813 : decode cL_law 813 = .ok (.iconst 1, 1) := by decide +kernel
theorem dL_law_814 : decode cL_law 814 = .ok (.iadd, 1) := by decide +kernel
theorem dL_law_815 : decode cL_law 815 = .ok (.iaload, 1) := by decide +kernel
theorem dL_law_816 : decode cL_law 816 = .ok (.invokevirtual 105, 3) := by decide +kernel
theorem dL_law_819 : decode cL_law 819 = .ok (.aload_n 2, 1) := by decide +kernel
theorem dL_law_820 : decode cL_law 820 = .ok (.aload_n 0, 1) := by decide +kernel
theorem dL_law_821 : decode cL_law 821 = .ok (.iload_n 3, 1) := by decide +kernel
theorem dL_law_822 : decode cL_law 822 = .ok (.iconst 1, 1) := by decide +kernel
theorem dL_law_823 : decode cL_law 823 = .ok (.iadd, 1) := by decide +kernel
theorem dL_law_824 : decode cL_law 824 = .ok (.iaload, 1) := by decide +kernel
theorem dL_law_825 : decode cL_law 825 = .ok (.invokevirtual 108, 3) := by decide +kernel
theorem dL_law_828 : decode cL_law 828 = .ok (.if_icmp .eq 28, 3) := by decide +kernel
theorem dL_law_831 : decode cL_law 831 = .ok (.iconst 0, 1) := by decide +kernel
theorem dL_law_832 : decode cL_law 832 = .ok (.ireturn, 1) := by decide +kernel
theorem dL_law_833 : decode cL_law 833 = .ok (.aload_n 1, 1) := by decide +kernel
theorem dL_law_834 : decode cL_law 834 = .ok (.aload_n 0, 1) := by decide +kernel
theorem dL_law_835 : decode cL_law 835 = .ok (.iload_n 3, 1) := by decide +kernel
theorem dL_law_836 : decode cL_law 836 = .ok (.iconst 1, 1) := by decide +kernel
theorem dL_law_837 : decode cL_law 837 = .ok (.iadd, 1) := by decide +kernel
theorem dL_law_838 : decode cL_law 838 = .ok (.iaload, 1) := by decide +kernel
theorem dL_law_839 : decode cL_law 839 = .ok (.invokevirtual 109, 3) := by decide +kernel
theorem dL_law_842 : decode cL_law 842 = .ok (.aload_n 2, 1) := by decide +kernel
theorem dL_law_843 : decode cL_law 843 = .ok (.aload_n 0, 1) := by decide +kernel
theorem dL_law_844 : decode cL_law 844 = .ok (.iload_n 3, 1) := by decide +kernel
theorem dL_law_845 : decode cL_law 845 = .ok (.iconst 1, 1) := by decide +kernel
theorem dL_law_846 : decode cL_law 846 = .ok (.iadd, 1) := by decide +kernel
theorem dL_law_847 : decode cL_law 847 = .ok (.iaload, 1) := by decide +kernel
theorem dL_law_848 : decode cL_law 848 = .ok (.invokevirtual 112, 3) := by decide +kernel
theorem dL_law_851 : decode cL_law 851 = .ok (.if_icmp .eq 5, 3) := by decide +kernel
theorem dL_law_854 : decode cL_law 854 = .ok (.iconst 0, 1) := by decide +kernel
theorem dL_law_855 : decode cL_law 855 = .ok (.ireturn, 1) := by decide +kernel
theorem dL_law_856 : decode cL_law 856 = .ok (.iinc 3 5, 3) := by decide +kernel
theorem dL_law_859 : decode cL_law 859 = .ok (.goto (-841), 3) := by decide +kernel
theorem dL_law_862 : decode cL_law 862 = .ok (.iconst 1, 1) := by decide +kernel
theorem dL_law_863 : decode cL_law 863 = .ok (.ireturn, 1) := by decide +kernel
