theorem dX0_aboveWith_0 : decode cX0_aboveWith 0 = .ok (.aload_n 0, 1) := by decide +kernel
theorem dX0_aboveWith_1 : decode cX0_aboveWith 1 = .ok (.getfield 15, 3) := by decide +kernel
theorem dX0_aboveWith_4 : decode cX0_aboveWith 4 = .ok (.iload_n 1, 1) := by decide +kernel
theorem dX0_aboveWith_5 : decode cX0_aboveWith 5 = .ok (.iaload, 1) := by decide +kernel
theorem dX0_aboveWith_6 : decode cX0_aboveWith 6 = .ok (.istore 5, 2) := by decide +kernel
theorem dX0_aboveWith_8 : decode cX0_aboveWith 8 = .ok (.aload_n 0, 1) := by decide +kernel
theorem dX0_aboveWith_9 : decode cX0_aboveWith 9 = .ok (.getfield 15, 3) := by decide +kernel
theorem dX0_aboveWith_12 : decode cX0_aboveWith 12 = .ok (.iload_n 1, 1) := by decide +kernel
theorem dX0_aboveWith_13 : decode cX0_aboveWith 13 = .ok (.iload_n 2, 1) := by decide +kernel
theorem dX0_aboveWith_14 : decode cX0_aboveWith 14 = .ok (.iastore, 1) := by decide +kernel
theorem dX0_aboveWith_15 : decode cX0_aboveWith 15 = .ok (.aload_n 0, 1) := by decide +kernel
theorem dX0_aboveWith_16 : decode cX0_aboveWith 16 = .ok (.iload_n 3, 1) := by decide +kernel
theorem dX0_aboveWith_17 : decode cX0_aboveWith 17 = .ok (.iload 4, 2) := by decide +kernel
theorem dX0_aboveWith_19 : decode cX0_aboveWith 19 = .ok (.invokevirtual 67, 3) := by decide +kernel
theorem dX0_aboveWith_22 : decode cX0_aboveWith 22 = .ok (.aload_n 0, 1) := by decide +kernel
theorem dX0_aboveWith_23 : decode cX0_aboveWith 23 = .ok (.getfield 15, 3) := by decide +kernel
theorem dX0_aboveWith_26 : decode cX0_aboveWith 26 = .ok (.iload_n 1, 1) := by decide +kernel
theorem dX0_aboveWith_27 : decode cX0_aboveWith 27 = .ok (.iload 5, 2) := by decide +kernel
theorem dX0_aboveWith_29 : decode cX0_aboveWith 29 = .ok (.iastore, 1) := by decide +kernel
theorem dX0_aboveWith_30 : decode cX0_aboveWith 30 = .ok (.aload_n 0, 1) := by decide +kernel
theorem dX0_aboveWith_31 : decode cX0_aboveWith 31 = .ok (.getfield 54, 3) := by decide +kernel
theorem dX0_aboveWith_34 : decode cX0_aboveWith 34 = .ok (.lreturn, 1) := by decide +kernel
theorem dX0_addToChoices_0 : decode cX0_addToChoices 0 = .ok (.iload_n 2, 1) := by decide +kernel
theorem dX0_addToChoices_1 : decode cX0_addToChoices 1 = .ok (.istore_n 3, 1) := by decide +kernel
theorem dX0_addToChoices_2 : decode cX0_addToChoices 2 = .ok (.iload_n 3, 1) := by decide +kernel
theorem dX0_addToChoices_3 : decode cX0_addToChoices 3 = .ok (.iconst 1, 1) := by decide +kernel
theorem dX0_addToChoices_4 : decode cX0_addToChoices 4 = .ok (.if_icmp .lt 94, 3) := by decide +kernel
theorem dX0_addToChoices_7 : decode cX0_addToChoices 7 = .ok (.aload_n 0, 1) := by decide +kernel
theorem dX0_addToChoices_8 : decode cX0_addToChoices 8 = .ok (.getfield 20, 3) := by decide +kernel
theorem dX0_addToChoices_11 : decode cX0_addToChoices 11 = .ok (.iload_n 3, 1) := by decide +kernel
theorem dX0_addToChoices_12 : decode cX0_addToChoices 12 = .ok (.iconst 1, 1) := by decide +kernel
theorem dX0_addToChoices_13 : decode cX0_addToChoices 13 = .ok (.isub, 1) := by decide +kernel
theorem dX0_addToChoices_14 : decode cX0_addToChoices 14 = .ok (.aaload, 1) := by decide +kernel
theorem dX0_addToChoices_15 : decode cX0_addToChoices 15 = .ok (.astore 4, 2) := by decide +kernel
theorem dX0_addToChoices_17 : decode cX0_addToChoices 17 = .ok (.aload_n 0, 1) := by decide +kernel
theorem dX0_addToChoices_18 : decode cX0_addToChoices 18 = .ok (.getfield 20, 3) := by decide +kernel
theorem dX0_addToChoices_21 : decode cX0_addToChoices 21 = .ok (.iload_n 3, 1) := by decide +kernel
theorem dX0_addToChoices_22 : decode cX0_addToChoices 22 = .ok (.aaload, 1) := by decide +kernel
theorem dX0_addToChoices_23 : decode cX0_addToChoices 23 = .ok (.astore 5, 2) := by decide +kernel
theorem dX0_addToChoices_25 : decode cX0_addToChoices 25 = .ok (.bipush 64, 2) := by decide +kernel
theorem dX0_addToChoices_27 : decode cX0_addToChoices 27 = .ok (.aload_n 0, 1) := by decide +kernel
theorem dX0_addToChoices_28 : decode cX0_addToChoices 28 = .ok (.getfield 37, 3) := by decide +kernel
theorem dX0_addToChoices_31 : decode cX0_addToChoices 31 = .ok (.isub, 1) := by decide +kernel
theorem dX0_addToChoices_32 : decode cX0_addToChoices 32 = .ok (.istore 6, 2) := by decide +kernel
theorem dX0_addToChoices_34 : decode cX0_addToChoices 34 = .ok (.iload 6, 2) := by decide +kernel
theorem dX0_addToChoices_36 : decode cX0_addToChoices 36 = .ok (.bipush 64, 2) := by decide +kernel
theorem dX0_addToChoices_38 : decode cX0_addToChoices 38 = .ok (.aload_n 0, 1) := by decide +kernel
theorem dX0_addToChoices_39 : decode cX0_addToChoices 39 = .ok (.getfield 37, 3) := by decide +kernel
theorem dX0_addToChoices_42 : decode cX0_addToChoices 42 = .ok (.iadd, 1) := by decide +kernel
theorem dX0_addToChoices_43 : decode cX0_addToChoices 43 = .ok (.if_icmp .gt 49, 3) := by decide +kernel
theorem dX0_addToChoices_46 : decode cX0_addToChoices 46 = .ok (.iload 6, 2) := by decide +kernel
theorem dX0_addToChoices_48 : decode cX0_addToChoices 48 = .ok (.iload_n 1, 1) := by decide +kernel
theorem dX0_addToChoices_49 : decode cX0_addToChoices 49 = .ok (.iadd, 1) := by decide +kernel
theorem dX0_addToChoices_50 : decode cX0_addToChoices 50 = .ok (.istore 7, 2) := by decide +kernel
theorem dX0_addToChoices_52 : decode cX0_addToChoices 52 = .ok (.aload 4, 2) := by decide +kernel
theorem dX0_addToChoices_54 : decode cX0_addToChoices 54 = .ok (.iload 6, 2) := by decide +kernel
theorem dX0_addToChoices_56 : decode cX0_addToChoices 56 = .ok (.iaload, 1) := by decide +kernel
theorem dX0_addToChoices_57 : decode cX0_addToChoices 57 = .ok (.ifCond .eq 29, 3) := by decide +kernel
theorem dX0_addToChoices_60 : decode cX0_addToChoices 60 = .ok (.iload 7, 2) := by decide +kernel
theorem dX0_addToChoices_62 : decode cX0_addToChoices 62 = .ok (.ifCond .lt 24, 3) := by decide +kernel
theorem dX0_addToChoices_65 : decode cX0_addToChoices 65 = .ok (.iload 7, 2) := by decide +kernel
theorem dX0_addToChoices_67 : decode cX0_addToChoices 67 = .ok (.sipush 129, 3) := by decide +kernel
theorem dX0_addToChoices_70 : decode cX0_addToChoices 70 = .ok (.if_icmp .ge 16, 3) := by decide +kernel
theorem dX0_addToChoices_73 : decode cX0_addToChoices 73 = .ok (.aload 5, 2) := by decide +kernel
theorem dX0_addToChoices_75 : decode cX0_addToChoices 75 = .ok (.iload 7, 2) := by decide +kernel
theorem dX0_addToChoices_77 : decode cX0_addToChoices 77 = .ok (.dup2, 1) := by decide +kernel
theorem dX0_addToChoices_78 : decode cX0_addToChoices 78 = .ok (.iaload, 1) := by decide +kernel
theorem dX0_addToChoices_79 : decode cX0_addToChoices 79 = .ok (.aload 4, 2) := by decide +kernel
theorem dX0_addToChoices_81 : decode cX0_addToChoices 81 = .ok (.iload 6, 2) := by decide +kernel
theorem dX0_addToChoices_83 : decode cX0_addToChoices 83 = .ok (.iaload, 1) := by decide +kernel
theorem dX0_addToChoices_84 : decode cX0_addToChoices 84 = .ok (.iadd, 1) := by decide +kernel
theorem dX0_addToChoices_85 : decode cX0_addToChoices 85 = .ok (.iastore, 1) := by decide +kernel
theorem dX0_addToChoices_86 : decode cX0_addToChoices 86 = .ok (.iinc 6 1, 3) := by decide +kernel
theorem dX0_addToChoices_89 : decode cX0_addToChoices 89 = .ok (.goto (-55), 3) := by decide +kernel
theorem dX0_addToChoices_92 : decode cX0_addToChoices 92 = .ok (.iinc 3 (-1), 3) := by decide +kernel
theorem dX0_addToChoices_95 : decode cX0_addToChoices 95 = .ok (.goto (-93), 3) := by decide +kernel
theorem dX0_addToChoices_98 : decode cX0_addToChoices 98 = .ok (.return_, 1) := by decide +kernel
theorem dX0_against_0 : decode cX0_against 0 = .ok (.iconst 0, 1) := by decide +kernel
theorem dX0_against_1 : decode cX0_against 1 = .ok (.istore_n 3, 1) := by decide +kernel
theorem dX0_against_2 : decode cX0_against 2 = .ok (.iconst 0, 1) := by decide +kernel
theorem dX0_against_3 : decode cX0_against 3 = .ok (.istore 4, 2) := by decide +kernel
theorem dX0_against_5 : decode cX0_against 5 = .ok (.iload 4, 2) := by decide +kernel
theorem dX0_against_7 : decode cX0_against 7 = .ok (.bipush 16, 2) := by decide +kernel
theorem dX0_against_9 : decode cX0_against 9 = .ok (.if_icmp .ge 75, 3) := by decide +kernel
theorem dX0_against_12 : decode cX0_against 12 = .ok (.iload_n 2, 1) := by decide +kernel
theorem dX0_against_13 : decode cX0_against 13 = .ok (.iload 4, 2) := by decide +kernel
theorem dX0_against_15 : decode cX0_against 15 = .ok (.invokestatic 23, 3) := by decide +kernel
theorem dX0_against_18 : decode cX0_against 18 = .ok (.ifCond .eq 60, 3) := by decide +kernel
theorem dX0_against_21 : decode cX0_against 21 = .ok (.aload_n 0, 1) := by decide +kernel
theorem dX0_against_22 : decode cX0_against 22 = .ok (.getfield 9, 3) := by decide +kernel
theorem dX0_against_25 : decode cX0_against 25 = .ok (.iload 4, 2) := by decide +kernel
theorem dX0_against_27 : decode cX0_against 27 = .ok (.iaload, 1) := by decide +kernel
theorem dX0_against_28 : decode cX0_against 28 = .ok (.aload_n 0, 1) := by decide +kernel
theorem dX0_against_29 : decode cX0_against 29 = .ok (.getfield 9, 3) := by decide +kernel
theorem dX0_against_32 : decode cX0_against 32 = .ok (.iload_n 1, 1) := by decide +kernel
theorem dX0_against_33 : decode cX0_against 33 = .ok (.iaload, 1) := by decide +kernel
theorem dX0_against_34 : decode cX0_against 34 = .ok (.if_icmp .ne 44, 3) := by decide +kernel
theorem dX0_against_37 : decode cX0_against 37 = .ok (.aload_n 0, 1) := by decide +kernel
theorem dX0_against_38 : decode cX0_against 38 = .ok (.getfield 15, 3) := by decide +kernel
theorem dX0_against_41 : decode cX0_against 41 = .ok (.iload_n 1, 1) := by decide +kernel
theorem dX0_against_42 : decode cX0_against 42 = .ok (.iaload, 1) := by decide +kernel
theorem dX0_against_43 : decode cX0_against 43 = .ok (.aload_n 0, 1) := by decide +kernel
theorem dX0_against_44 : decode cX0_against 44 = .ok (.getfield 15, 3) := by decide +kernel
theorem dX0_against_47 : decode cX0_against 47 = .ok (.iload 4, 2) := by decide +kernel
theorem dX0_against_49 : decode cX0_against 49 = .ok (.iaload, 1) := by decide +kernel
theorem dX0_against_50 : decode cX0_against 50 = .ok (.if_icmp .le 9, 3) := by decide +kernel
theorem dX0_against_53 : decode cX0_against 53 = .ok (.iinc 3 1, 3) := by decide +kernel
theorem dX0_against_56 : decode cX0_against 56 = .ok (.goto 22, 3) := by decide +kernel
theorem dX0_against_59 : decode cX0_against 59 = .ok (.aload_n 0, 1) := by decide +kernel
theorem dX0_against_60 : decode cX0_against 60 = .ok (.getfield 15, 3) := by decide +kernel
theorem dX0_against_63 : decode cX0_against 63 = .ok (.iload_n 1, 1) := by decide +kernel
theorem dX0_against_64 : decode cX0_against 64 = .ok (.iaload, 1) := by decide +kernel
theorem dX0_against_65 : decode cX0_against 65 = .ok (.aload_n 0, 1) := by decide +kernel
theorem dX0_against_66 : decode cX0_against 66 = .ok (.getfield 15, 3) := by decide +kernel
theorem dX0_against_69 : decode cX0_against 69 = .ok (.iload 4, 2) := by decide +kernel
theorem dX0_against_71 : decode cX0_against 71 = .ok (.iaload, 1) := by decide +kernel
theorem dX0_against_72 : decode cX0_against 72 = .ok (.if_icmp .ge 6, 3) := by decide +kernel
theorem dX0_against_75 : decode cX0_against 75 = .ok (.iinc 3 (-1), 3) := by decide +kernel
theorem dX0_against_78 : decode cX0_against 78 = .ok (.iinc 4 1, 3) := by decide +kernel
theorem dX0_against_81 : decode cX0_against 81 = .ok (.goto (-76), 3) := by decide +kernel
theorem dX0_against_84 : decode cX0_against 84 = .ok (.iload_n 3, 1) := by decide +kernel
theorem dX0_against_85 : decode cX0_against 85 = .ok (.ireturn, 1) := by decide +kernel
theorem dX0_deal_0 : decode cX0_deal 0 = .ok (.aload_n 0, 1) := by decide +kernel
theorem dX0_deal_1 : decode cX0_deal 1 = .ok (.getfield 20, 3) := by decide +kernel
theorem dX0_deal_4 : decode cX0_deal 4 = .ok (.iconst 0, 1) := by decide +kernel
theorem dX0_deal_5 : decode cX0_deal 5 = .ok (.aaload, 1) := by decide +kernel
theorem dX0_deal_6 : decode cX0_deal 6 = .ok (.iconst 0, 1) := by decide +kernel
theorem dX0_deal_7 : decode cX0_deal 7 = .ok (.invokestatic 31, 3) := by decide +kernel
theorem dX0_deal_10 : decode cX0_deal 10 = .ok (.aload_n 0, 1) := by decide +kernel
theorem dX0_deal_11 : decode cX0_deal 11 = .ok (.getfield 20, 3) := by decide +kernel
theorem dX0_deal_14 : decode cX0_deal 14 = .ok (.iconst 0, 1) := by decide +kernel
theorem dX0_deal_15 : decode cX0_deal 15 = .ok (.aaload, 1) := by decide +kernel
theorem dX0_deal_16 : decode cX0_deal 16 = .ok (.bipush 64, 2) := by decide +kernel
theorem dX0_deal_18 : decode cX0_deal 18 = .ok (.iconst 1, 1) := by decide +kernel
theorem dX0_deal_19 : decode cX0_deal 19 = .ok (.iastore, 1) := by decide +kernel
theorem dX0_deal_20 : decode cX0_deal 20 = .ok (.aload_n 0, 1) := by decide +kernel
theorem dX0_deal_21 : decode cX0_deal 21 = .ok (.iconst 0, 1) := by decide +kernel
theorem dX0_deal_22 : decode cX0_deal 22 = .ok (.putfield 37, 3) := by decide +kernel
theorem dX0_deal_25 : decode cX0_deal 25 = .ok (.aload_n 0, 1) := by decide +kernel
theorem dX0_deal_26 : decode cX0_deal 26 = .ok (.aload_n 0, 1) := by decide +kernel
theorem dX0_deal_27 : decode cX0_deal 27 = .ok (.iload_n 1, 1) := by decide +kernel
theorem dX0_deal_28 : decode cX0_deal 28 = .ok (.iload_n 2, 1) := by decide +kernel
theorem dX0_deal_29 : decode cX0_deal 29 = .ok (.invokevirtual 41, 3) := by decide +kernel
theorem dX0_deal_32 : decode cX0_deal 32 = .ok (.putfield 44, 3) := by decide +kernel
theorem dX0_deal_35 : decode cX0_deal 35 = .ok (.iconst 0, 1) := by decide +kernel
theorem dX0_deal_36 : decode cX0_deal 36 = .ok (.istore_n 3, 1) := by decide +kernel
theorem dX0_deal_37 : decode cX0_deal 37 = .ok (.iload_n 3, 1) := by decide +kernel
theorem dX0_deal_38 : decode cX0_deal 38 = .ok (.iconst 4, 1) := by decide +kernel
theorem dX0_deal_39 : decode cX0_deal 39 = .ok (.if_icmp .gt 20, 3) := by decide +kernel
theorem dX0_deal_42 : decode cX0_deal 42 = .ok (.aload_n 0, 1) := by decide +kernel
theorem dX0_deal_43 : decode cX0_deal 43 = .ok (.aload_n 0, 1) := by decide +kernel
theorem dX0_deal_44 : decode cX0_deal 44 = .ok (.iload_n 3, 1) := by decide +kernel
theorem dX0_deal_45 : decode cX0_deal 45 = .ok (.iload_n 1, 1) := by decide +kernel
theorem dX0_deal_46 : decode cX0_deal 46 = .ok (.invokevirtual 47, 3) := by decide +kernel
theorem dX0_deal_49 : decode cX0_deal 49 = .ok (.iload_n 2, 1) := by decide +kernel
theorem dX0_deal_50 : decode cX0_deal 50 = .ok (.invokevirtual 50, 3) := by decide +kernel
theorem dX0_deal_53 : decode cX0_deal 53 = .ok (.iinc 3 1, 3) := by decide +kernel
theorem dX0_deal_56 : decode cX0_deal 56 = .ok (.goto (-19), 3) := by decide +kernel
theorem dX0_deal_59 : decode cX0_deal 59 = .ok (.aload_n 0, 1) := by decide +kernel
theorem dX0_deal_60 : decode cX0_deal 60 = .ok (.lconst 0, 1) := by decide +kernel
theorem dX0_deal_61 : decode cX0_deal 61 = .ok (.putfield 54, 3) := by decide +kernel
theorem dX0_deal_64 : decode cX0_deal 64 = .ok (.aload_n 0, 1) := by decide +kernel
theorem dX0_deal_65 : decode cX0_deal 65 = .ok (.lconst 0, 1) := by decide +kernel
theorem dX0_deal_66 : decode cX0_deal 66 = .ok (.putfield 58, 3) := by decide +kernel
theorem dX0_deal_69 : decode cX0_deal 69 = .ok (.iconst 0, 1) := by decide +kernel
theorem dX0_deal_70 : decode cX0_deal 70 = .ok (.istore_n 3, 1) := by decide +kernel
theorem dX0_deal_71 : decode cX0_deal 71 = .ok (.iload_n 3, 1) := by decide +kernel
theorem dX0_deal_72 : decode cX0_deal 72 = .ok (.sipush 129, 3) := by decide +kernel
theorem dX0_deal_75 : decode cX0_deal 75 = .ok (.if_icmp .ge 56, 3) := by decide +kernel
theorem dX0_deal_78 : decode cX0_deal 78 = .ok (.aload_n 0, 1) := by decide +kernel
theorem dX0_deal_79 : decode cX0_deal 79 = .ok (.dup, 1) := by decide +kernel
theorem dX0_deal_80 : decode cX0_deal 80 = .ok (.getfield 58, 3) := by decide +kernel
theorem dX0_deal_83 : decode cX0_deal 83 = .ok (.aload_n 0, 1) := by decide +kernel
theorem dX0_deal_84 : decode cX0_deal 84 = .ok (.getfield 20, 3) := by decide +kernel
theorem dX0_deal_87 : decode cX0_deal 87 = .ok (.iconst 0, 1) := by decide +kernel
theorem dX0_deal_88 : decode cX0_deal 88 = .ok (.aaload, 1) := by decide +kernel
theorem dX0_deal_89 : decode cX0_deal 89 = .ok (.iload_n 3, 1) := by decide +kernel
theorem dX0_deal_90 : decode cX0_deal 90 = .ok (.iaload, 1) := by decide +kernel
theorem dX0_deal_91 : decode cX0_deal 91 = .ok (.i2l, 1) := by decide +kernel
theorem dX0_deal_92 : decode cX0_deal 92 = .ok (.ladd, 1) := by decide +kernel
theorem dX0_deal_93 : decode cX0_deal 93 = .ok (.putfield 58, 3) := by decide +kernel
theorem dX0_deal_96 : decode cX0_deal 96 = .ok (.iload_n 3, 1) := by decide +kernel
theorem dX0_deal_97 : decode cX0_deal 97 = .ok (.bipush 64, 2) := by decide +kernel
theorem dX0_deal_99 : decode cX0_deal 99 = .ok (.isub, 1) := by decide +kernel
theorem dX0_deal_100 : decode cX0_deal 100 = .ok (.aload_n 0, 1) := by decide +kernel
theorem dX0_deal_101 : decode cX0_deal 101 = .ok (.getfield 44, 3) := by decide +kernel
theorem dX0_deal_104 : decode cX0_deal 104 = .ok (.if_icmp .lt 21, 3) := by decide +kernel
theorem dX0_deal_107 : decode cX0_deal 107 = .ok (.aload_n 0, 1) := by decide +kernel
theorem dX0_deal_108 : decode cX0_deal 108 = .ok (.dup, 1) := by decide +kernel
theorem dX0_deal_109 : decode cX0_deal 109 = .ok (.getfield 54, 3) := by decide +kernel
theorem dX0_deal_112 : decode cX0_deal 112 = .ok (.aload_n 0, 1) := by decide +kernel
theorem dX0_deal_113 : decode cX0_deal 113 = .ok (.getfield 20, 3) := by decide +kernel
theorem dX0_deal_116 : decode cX0_deal 116 = .ok (.iconst 0, 1) := by decide +kernel
theorem dX0_deal_117 : decode cX0_deal 117 = .ok (.aaload, 1) := by decide +kernel
theorem dX0_deal_118 : decode cX0_deal 118 = .ok (.iload_n 3, 1) := by decide +kernel
theorem dX0_deal_119 : decode cX0_deal 119 = .ok (.iaload, 1) := by decide +kernel
theorem dX0_deal_120 : decode cX0_deal 120 = .ok (.i2l, 1) := by decide +kernel
theorem dX0_deal_121 : decode cX0_deal 121 = .ok (.ladd, 1) := by decide +kernel
theorem dX0_deal_122 : decode cX0_deal 122 = .ok (.putfield 54, 3) := by decide +kernel
theorem dX0_deal_125 : decode cX0_deal 125 = .ok (.iinc 3 1, 3) := by decide +kernel
theorem dX0_deal_128 : decode cX0_deal 128 = .ok (.goto (-57), 3) := by decide +kernel
theorem dX0_deal_131 : decode cX0_deal 131 = .ok (.return_, 1) := by decide +kernel
theorem dX0_dealHand_0 : decode cX0_dealHand 0 = .ok (.iload_n 1, 1) := by decide +kernel
theorem dX0_dealHand_1 : decode cX0_dealHand 1 = .ok (.invokestatic 83, 3) := by decide +kernel
theorem dX0_dealHand_4 : decode cX0_dealHand 4 = .ok (.istore_n 3, 1) := by decide +kernel
theorem dX0_dealHand_5 : decode cX0_dealHand 5 = .ok (.iload_n 1, 1) := by decide +kernel
theorem dX0_dealHand_6 : decode cX0_dealHand 6 = .ok (.iload_n 2, 1) := by decide +kernel
theorem dX0_dealHand_7 : decode cX0_dealHand 7 = .ok (.iand, 1) := by decide +kernel
theorem dX0_dealHand_8 : decode cX0_dealHand 8 = .ok (.invokestatic 83, 3) := by decide +kernel
theorem dX0_dealHand_11 : decode cX0_dealHand 11 = .ok (.istore 4, 2) := by decide +kernel
theorem dX0_dealHand_13 : decode cX0_dealHand 13 = .ok (.iload 4, 2) := by decide +kernel
theorem dX0_dealHand_15 : decode cX0_dealHand 15 = .ok (.iload_n 3, 1) := by decide +kernel
theorem dX0_dealHand_16 : decode cX0_dealHand 16 = .ok (.iload 4, 2) := by decide +kernel
theorem dX0_dealHand_18 : decode cX0_dealHand 18 = .ok (.isub, 1) := by decide +kernel
theorem dX0_dealHand_19 : decode cX0_dealHand 19 = .ok (.invokestatic 89, 3) := by decide +kernel
theorem dX0_dealHand_22 : decode cX0_dealHand 22 = .ok (.istore 5, 2) := by decide +kernel
theorem dX0_dealHand_24 : decode cX0_dealHand 24 = .ok (.iload 4, 2) := by decide +kernel
theorem dX0_dealHand_26 : decode cX0_dealHand 26 = .ok (.iload 5, 2) := by decide +kernel
theorem dX0_dealHand_28 : decode cX0_dealHand 28 = .ok (.if_icmp .ne 7, 3) := by decide +kernel
theorem dX0_dealHand_31 : decode cX0_dealHand 31 = .ok (.iconst 1, 1) := by decide +kernel
theorem dX0_dealHand_32 : decode cX0_dealHand 32 = .ok (.goto 4, 3) := by decide +kernel
theorem dX0_dealHand_35 : decode cX0_dealHand 35 = .ok (.iconst (-1), 1) := by decide +kernel
theorem dX0_dealHand_36 : decode cX0_dealHand 36 = .ok (.istore 6, 2) := by decide +kernel
theorem dX0_dealHand_38 : decode cX0_dealHand 38 = .ok (.iload 5, 2) := by decide +kernel
theorem dX0_dealHand_40 : decode cX0_dealHand 40 = .ok (.iconst 1, 1) := by decide +kernel
theorem dX0_dealHand_41 : decode cX0_dealHand 41 = .ok (.if_icmp .lt 10, 3) := by decide +kernel
theorem dX0_dealHand_44 : decode cX0_dealHand 44 = .ok (.iload 5, 2) := by decide +kernel
theorem dX0_dealHand_46 : decode cX0_dealHand 46 = .ok (.bipush 8, 2) := by decide +kernel
theorem dX0_dealHand_48 : decode cX0_dealHand 48 = .ok (.if_icmp .le 4, 3) := by decide +kernel
theorem dX0_dealHand_51 : decode cX0_dealHand 51 = .ok (.return_, 1) := by decide +kernel
theorem dX0_dealHand_52 : decode cX0_dealHand 52 = .ok (.iconst 1, 1) := by decide +kernel
theorem dX0_dealHand_53 : decode cX0_dealHand 53 = .ok (.istore 7, 2) := by decide +kernel
theorem dX0_dealHand_55 : decode cX0_dealHand 55 = .ok (.iload 7, 2) := by decide +kernel
theorem dX0_dealHand_57 : decode cX0_dealHand 57 = .ok (.iload 5, 2) := by decide +kernel
theorem dX0_dealHand_59 : decode cX0_dealHand 59 = .ok (.if_icmp .gt 20, 3) := by decide +kernel
theorem dX0_dealHand_62 : decode cX0_dealHand 62 = .ok (.aload_n 0, 1) := by decide +kernel
theorem dX0_dealHand_63 : decode cX0_dealHand 63 = .ok (.getfield 20, 3) := by decide +kernel
theorem dX0_dealHand_66 : decode cX0_dealHand 66 = .ok (.iload 7, 2) := by decide +kernel
theorem dX0_dealHand_68 : decode cX0_dealHand 68 = .ok (.aaload, 1) := by decide +kernel
theorem dX0_dealHand_69 : decode cX0_dealHand 69 = .ok (.iconst 0, 1) := by decide +kernel
theorem dX0_dealHand_70 : decode cX0_dealHand 70 = .ok (.invokestatic 31, 3) := by decide +kernel
theorem dX0_dealHand_73 : decode cX0_dealHand 73 = .ok (.iinc 7 1, 3) := by decide +kernel
theorem dX0_dealHand_76 : decode cX0_dealHand 76 = .ok (.goto (-21), 3) := by decide +kernel
theorem dX0_dealHand_79 : decode cX0_dealHand 79 = .ok (.aload_n 0, 1) := by decide +kernel
theorem dX0_dealHand_80 : decode cX0_dealHand 80 = .ok (.bipush 64, 2) := by decide +kernel
theorem dX0_dealHand_82 : decode cX0_dealHand 82 = .ok (.aload_n 0, 1) := by decide +kernel
theorem dX0_dealHand_83 : decode cX0_dealHand 83 = .ok (.getfield 37, 3) := by decide +kernel
theorem dX0_dealHand_86 : decode cX0_dealHand 86 = .ok (.iload 5, 2) := by decide +kernel
theorem dX0_dealHand_88 : decode cX0_dealHand 88 = .ok (.iload_n 3, 1) := by decide +kernel
theorem dX0_dealHand_89 : decode cX0_dealHand 89 = .ok (.iload 5, 2) := by decide +kernel
theorem dX0_dealHand_91 : decode cX0_dealHand 91 = .ok (.isub, 1) := by decide +kernel
theorem dX0_dealHand_92 : decode cX0_dealHand 92 = .ok (.imul, 1) := by decide +kernel
theorem dX0_dealHand_93 : decode cX0_dealHand 93 = .ok (.iadd, 1) := by decide +kernel
theorem dX0_dealHand_94 : decode cX0_dealHand 94 = .ok (.invokestatic 89, 3) := by decide +kernel
theorem dX0_dealHand_97 : decode cX0_dealHand 97 = .ok (.putfield 37, 3) := by decide +kernel
theorem dX0_dealHand_100 : decode cX0_dealHand 100 = .ok (.iconst 0, 1) := by decide +kernel
theorem dX0_dealHand_101 : decode cX0_dealHand 101 = .ok (.istore 7, 2) := by decide +kernel
theorem dX0_dealHand_103 : decode cX0_dealHand 103 = .ok (.iload 7, 2) := by decide +kernel
theorem dX0_dealHand_105 : decode cX0_dealHand 105 = .ok (.bipush 16, 2) := by decide +kernel
theorem dX0_dealHand_107 : decode cX0_dealHand 107 = .ok (.if_icmp .ge 34, 3) := by decide +kernel
theorem dX0_dealHand_110 : decode cX0_dealHand 110 = .ok (.iload_n 1, 1) := by decide +kernel
theorem dX0_dealHand_111 : decode cX0_dealHand 111 = .ok (.iload 7, 2) := by decide +kernel
theorem dX0_dealHand_113 : decode cX0_dealHand 113 = .ok (.invokestatic 23, 3) := by decide +kernel
theorem dX0_dealHand_116 : decode cX0_dealHand 116 = .ok (.ifCond .eq 19, 3) := by decide +kernel
theorem dX0_dealHand_119 : decode cX0_dealHand 119 = .ok (.aload_n 0, 1) := by decide +kernel
theorem dX0_dealHand_120 : decode cX0_dealHand 120 = .ok (.iload 6, 2) := by decide +kernel
theorem dX0_dealHand_122 : decode cX0_dealHand 122 = .ok (.aload_n 0, 1) := by decide +kernel
theorem dX0_dealHand_123 : decode cX0_dealHand 123 = .ok (.iload 7, 2) := by decide +kernel
theorem dX0_dealHand_125 : decode cX0_dealHand 125 = .ok (.iload_n 1, 1) := by decide +kernel
theorem dX0_dealHand_126 : decode cX0_dealHand 126 = .ok (.invokevirtual 27, 3) := by decide +kernel
theorem dX0_dealHand_129 : decode cX0_dealHand 129 = .ok (.imul, 1) := by decide +kernel
theorem dX0_dealHand_130 : decode cX0_dealHand 130 = .ok (.iload 5, 2) := by decide +kernel
theorem dX0_dealHand_132 : decode cX0_dealHand 132 = .ok (.invokevirtual 92, 3) := by decide +kernel
theorem dX0_dealHand_135 : decode cX0_dealHand 135 = .ok (.iinc 7 1, 3) := by decide +kernel
theorem dX0_dealHand_138 : decode cX0_dealHand 138 = .ok (.goto (-35), 3) := by decide +kernel
theorem dX0_dealHand_141 : decode cX0_dealHand 141 = .ok (.aload_n 0, 1) := by decide +kernel
theorem dX0_dealHand_142 : decode cX0_dealHand 142 = .ok (.getfield 20, 3) := by decide +kernel
theorem dX0_dealHand_145 : decode cX0_dealHand 145 = .ok (.iload 5, 2) := by decide +kernel
theorem dX0_dealHand_147 : decode cX0_dealHand 147 = .ok (.aaload, 1) := by decide +kernel
theorem dX0_dealHand_148 : decode cX0_dealHand 148 = .ok (.iconst 0, 1) := by decide +kernel
theorem dX0_dealHand_149 : decode cX0_dealHand 149 = .ok (.aload_n 0, 1) := by decide +kernel
theorem dX0_dealHand_150 : decode cX0_dealHand 150 = .ok (.getfield 20, 3) := by decide +kernel
theorem dX0_dealHand_153 : decode cX0_dealHand 153 = .ok (.iconst 0, 1) := by decide +kernel
theorem dX0_dealHand_154 : decode cX0_dealHand 154 = .ok (.aaload, 1) := by decide +kernel
theorem dX0_dealHand_155 : decode cX0_dealHand 155 = .ok (.iconst 0, 1) := by decide +kernel
theorem dX0_dealHand_156 : decode cX0_dealHand 156 = .ok (.sipush 129, 3) := by decide +kernel
theorem dX0_dealHand_159 : decode cX0_dealHand 159 = .ok (.invokestatic 95, 3) := by decide +kernel
theorem dX0_dealHand_162 : decode cX0_dealHand 162 = .ok (.return_, 1) := by decide +kernel
theorem dX0_forgetLeast_0 : decode cX0_forgetLeast 0 = .ok (.aload_n 0, 1) := by decide +kernel
theorem dX0_forgetLeast_1 : decode cX0_forgetLeast 1 = .ok (.lconst 1, 1) := by decide +kernel
theorem dX0_forgetLeast_2 : decode cX0_forgetLeast 2 = .ok (.putfield 61, 3) := by decide +kernel
theorem dX0_forgetLeast_5 : decode cX0_forgetLeast 5 = .ok (.aload_n 0, 1) := by decide +kernel
theorem dX0_forgetLeast_6 : decode cX0_forgetLeast 6 = .ok (.lconst 1, 1) := by decide +kernel
theorem dX0_forgetLeast_7 : decode cX0_forgetLeast 7 = .ok (.putfield 64, 3) := by decide +kernel
theorem dX0_forgetLeast_10 : decode cX0_forgetLeast 10 = .ok (.return_, 1) := by decide +kernel
theorem dX0_heaviest_0 : decode cX0_heaviest 0 = .ok (.iconst (-1), 1) := by decide +kernel
theorem dX0_heaviest_1 : decode cX0_heaviest 1 = .ok (.istore_n 3, 1) := by decide +kernel
theorem dX0_heaviest_2 : decode cX0_heaviest 2 = .ok (.lconst 0, 1) := by decide +kernel
theorem dX0_heaviest_3 : decode cX0_heaviest 3 = .ok (.lstore 4, 2) := by decide +kernel
theorem dX0_heaviest_5 : decode cX0_heaviest 5 = .ok (.lconst 1, 1) := by decide +kernel
theorem dX0_heaviest_6 : decode cX0_heaviest 6 = .ok (.lstore 6, 2) := by decide +kernel
theorem dX0_heaviest_8 : decode cX0_heaviest 8 = .ok (.iconst 0, 1) := by decide +kernel
theorem dX0_heaviest_9 : decode cX0_heaviest 9 = .ok (.istore 8, 2) := by decide +kernel
theorem dX0_heaviest_11 : decode cX0_heaviest 11 = .ok (.iload 8, 2) := by decide +kernel
theorem dX0_heaviest_13 : decode cX0_heaviest 13 = .ok (.bipush 16, 2) := by decide +kernel
theorem dX0_heaviest_15 : decode cX0_heaviest 15 = .ok (.if_icmp .ge 71, 3) := by decide +kernel
theorem dX0_heaviest_18 : decode cX0_heaviest 18 = .ok (.iload_n 1, 1) := by decide +kernel
theorem dX0_heaviest_19 : decode cX0_heaviest 19 = .ok (.iload 8, 2) := by decide +kernel
theorem dX0_heaviest_21 : decode cX0_heaviest 21 = .ok (.invokestatic 23, 3) := by decide +kernel
theorem dX0_heaviest_24 : decode cX0_heaviest 24 = .ok (.ifCond .eq 56, 3) := by decide +kernel
theorem dX0_heaviest_27 : decode cX0_heaviest 27 = .ok (.iconst 1, 1) := by decide +kernel
theorem dX0_heaviest_28 : decode cX0_heaviest 28 = .ok (.iload 8, 2) := by decide +kernel
theorem dX0_heaviest_30 : decode cX0_heaviest 30 = .ok (.ishl, 1) := by decide +kernel
theorem dX0_heaviest_31 : decode cX0_heaviest 31 = .ok (.iconst (-1), 1) := by decide +kernel
theorem dX0_heaviest_32 : decode cX0_heaviest 32 = .ok (.ixor, 1) := by decide +kernel
theorem dX0_heaviest_33 : decode cX0_heaviest 33 = .ok (.istore 9, 2) := by decide +kernel
theorem dX0_heaviest_35 : decode cX0_heaviest 35 = .ok (.aload_n 0, 1) := by decide +kernel
theorem dX0_heaviest_36 : decode cX0_heaviest 36 = .ok (.iload_n 1, 1) := by decide +kernel
theorem dX0_heaviest_37 : decode cX0_heaviest 37 = .ok (.iload 9, 2) := by decide +kernel
theorem dX0_heaviest_39 : decode cX0_heaviest 39 = .ok (.iand, 1) := by decide +kernel
theorem dX0_heaviest_40 : decode cX0_heaviest 40 = .ok (.iload_n 2, 1) := by decide +kernel
theorem dX0_heaviest_41 : decode cX0_heaviest 41 = .ok (.iload 9, 2) := by decide +kernel
theorem dX0_heaviest_43 : decode cX0_heaviest 43 = .ok (.iand, 1) := by decide +kernel
theorem dX0_heaviest_44 : decode cX0_heaviest 44 = .ok (.invokevirtual 67, 3) := by decide +kernel
theorem dX0_heaviest_47 : decode cX0_heaviest 47 = .ok (.aload_n 0, 1) := by decide +kernel
theorem dX0_heaviest_48 : decode cX0_heaviest 48 = .ok (.getfield 54, 3) := by decide +kernel
theorem dX0_heaviest_51 : decode cX0_heaviest 51 = .ok (.lload 6, 2) := by decide +kernel
theorem dX0_heaviest_53 : decode cX0_heaviest 53 = .ok (.lmul, 1) := by decide +kernel
theorem dX0_heaviest_54 : decode cX0_heaviest 54 = .ok (.lload 4, 2) := by decide +kernel
theorem dX0_heaviest_56 : decode cX0_heaviest 56 = .ok (.aload_n 0, 1) := by decide +kernel
theorem dX0_heaviest_57 : decode cX0_heaviest 57 = .ok (.getfield 58, 3) := by decide +kernel
theorem dX0_heaviest_60 : decode cX0_heaviest 60 = .ok (.lmul, 1) := by decide +kernel
theorem dX0_heaviest_61 : decode cX0_heaviest 61 = .ok (.lcmp, 1) := by decide +kernel
theorem dX0_heaviest_62 : decode cX0_heaviest 62 = .ok (.ifCond .le 18, 3) := by decide +kernel
theorem dX0_heaviest_65 : decode cX0_heaviest 65 = .ok (.iload 8, 2) := by decide +kernel
theorem dX0_heaviest_67 : decode cX0_heaviest 67 = .ok (.istore_n 3, 1) := by decide +kernel
theorem dX0_heaviest_68 : decode cX0_heaviest 68 = .ok (.aload_n 0, 1) := by decide +kernel
theorem dX0_heaviest_69 : decode cX0_heaviest 69 = .ok (.getfield 54, 3) := by decide +kernel
theorem dX0_heaviest_72 : decode cX0_heaviest 72 = .ok (.lstore 4, 2) := by decide +kernel
theorem dX0_heaviest_74 : decode cX0_heaviest 74 = .ok (.aload_n 0, 1) := by decide +kernel
theorem dX0_heaviest_75 : decode cX0_heaviest 75 = .ok (.getfield 58, 3) := by decide +kernel
theorem dX0_heaviest_78 : decode cX0_heaviest 78 = .ok (.lstore 6, 2) := by decide +kernel
theorem dX0_heaviest_80 : decode cX0_heaviest 80 = .ok (.iinc 8 1, 3) := by decide +kernel
theorem dX0_heaviest_83 : decode cX0_heaviest 83 = .ok (.goto (-72), 3) := by decide +kernel
theorem dX0_heaviest_86 : decode cX0_heaviest 86 = .ok (.iload_n 3, 1) := by decide +kernel
theorem dX0_heaviest_87 : decode cX0_heaviest 87 = .ok (.ireturn, 1) := by decide +kernel
theorem dX0_holds_0 : decode cX0_holds 0 = .ok (.iload_n 0, 1) := by decide +kernel
theorem dX0_holds_1 : decode cX0_holds 1 = .ok (.iload_n 1, 1) := by decide +kernel
theorem dX0_holds_2 : decode cX0_holds 2 = .ok (.ishr, 1) := by decide +kernel
theorem dX0_holds_3 : decode cX0_holds 3 = .ok (.iconst 1, 1) := by decide +kernel
theorem dX0_holds_4 : decode cX0_holds 4 = .ok (.iand, 1) := by decide +kernel
theorem dX0_holds_5 : decode cX0_holds 5 = .ok (.iconst 1, 1) := by decide +kernel
theorem dX0_holds_6 : decode cX0_holds 6 = .ok (.if_icmp .ne 7, 3) := by decide +kernel
theorem dX0_holds_9 : decode cX0_holds 9 = .ok (.iconst 1, 1) := by decide +kernel
theorem dX0_holds_10 : decode cX0_holds 10 = .ok (.goto 4, 3) := by decide +kernel
theorem dX0_holds_13 : decode cX0_holds 13 = .ok (.iconst 0, 1) := by decide +kernel
theorem dX0_holds_14 : decode cX0_holds 14 = .ok (.ireturn, 1) := by decide +kernel
theorem dX0_init_0 : decode cX0_init 0 = .ok (.aload_n 0, 1) := by decide +kernel
theorem dX0_init_1 : decode cX0_init 1 = .ok (.invokespecial 3, 3) := by decide +kernel
theorem dX0_init_4 : decode cX0_init 4 = .ok (.aload_n 0, 1) := by decide +kernel
theorem dX0_init_5 : decode cX0_init 5 = .ok (.bipush 16, 2) := by decide +kernel
theorem dX0_init_7 : decode cX0_init 7 = .ok (.newarray .int, 2) := by decide +kernel
theorem dX0_init_9 : decode cX0_init 9 = .ok (.putfield 9, 3) := by decide +kernel
theorem dX0_init_12 : decode cX0_init 12 = .ok (.aload_n 0, 1) := by decide +kernel
theorem dX0_init_13 : decode cX0_init 13 = .ok (.bipush 16, 2) := by decide +kernel
theorem dX0_init_15 : decode cX0_init 15 = .ok (.newarray .int, 2) := by decide +kernel
theorem dX0_init_17 : decode cX0_init 17 = .ok (.putfield 15, 3) := by decide +kernel
theorem dX0_init_20 : decode cX0_init 20 = .ok (.aload_n 0, 1) := by decide +kernel
theorem dX0_init_21 : decode cX0_init 21 = .ok (.bipush 9, 2) := by decide +kernel
theorem dX0_init_23 : decode cX0_init 23 = .ok (.sipush 129, 3) := by decide +kernel
theorem dX0_init_26 : decode cX0_init 26 = .ok (.multianewarray 18 2, 4) := by decide +kernel
theorem dX0_init_30 : decode cX0_init 30 = .ok (.putfield 20, 3) := by decide +kernel
theorem dX0_init_33 : decode cX0_init 33 = .ok (.return_, 1) := by decide +kernel
theorem dX0_keepLeast_0 : decode cX0_keepLeast 0 = .ok (.aload_n 0, 1) := by decide +kernel
theorem dX0_keepLeast_1 : decode cX0_keepLeast 1 = .ok (.getfield 54, 3) := by decide +kernel
theorem dX0_keepLeast_4 : decode cX0_keepLeast 4 = .ok (.aload_n 0, 1) := by decide +kernel
theorem dX0_keepLeast_5 : decode cX0_keepLeast 5 = .ok (.getfield 64, 3) := by decide +kernel
theorem dX0_keepLeast_8 : decode cX0_keepLeast 8 = .ok (.lmul, 1) := by decide +kernel
theorem dX0_keepLeast_9 : decode cX0_keepLeast 9 = .ok (.aload_n 0, 1) := by decide +kernel
theorem dX0_keepLeast_10 : decode cX0_keepLeast 10 = .ok (.getfield 61, 3) := by decide +kernel
theorem dX0_keepLeast_13 : decode cX0_keepLeast 13 = .ok (.aload_n 0, 1) := by decide +kernel
theorem dX0_keepLeast_14 : decode cX0_keepLeast 14 = .ok (.getfield 58, 3) := by decide +kernel
theorem dX0_keepLeast_17 : decode cX0_keepLeast 17 = .ok (.lmul, 1) := by decide +kernel
theorem dX0_keepLeast_18 : decode cX0_keepLeast 18 = .ok (.lcmp, 1) := by decide +kernel
theorem dX0_keepLeast_19 : decode cX0_keepLeast 19 = .ok (.ifCond .ge 19, 3) := by decide +kernel
theorem dX0_keepLeast_22 : decode cX0_keepLeast 22 = .ok (.aload_n 0, 1) := by decide +kernel
theorem dX0_keepLeast_23 : decode cX0_keepLeast 23 = .ok (.aload_n 0, 1) := by decide +kernel
theorem dX0_keepLeast_24 : decode cX0_keepLeast 24 = .ok (.getfield 54, 3) := by decide +kernel
theorem dX0_keepLeast_27 : decode cX0_keepLeast 27 = .ok (.putfield 61, 3) := by decide +kernel
theorem dX0_keepLeast_30 : decode cX0_keepLeast 30 = .ok (.aload_n 0, 1) := by decide +kernel
theorem dX0_keepLeast_31 : decode cX0_keepLeast 31 = .ok (.aload_n 0, 1) := by decide +kernel
theorem dX0_keepLeast_32 : decode cX0_keepLeast 32 = .ok (.getfield 58, 3) := by decide +kernel
theorem dX0_keepLeast_35 : decode cX0_keepLeast 35 = .ok (.putfield 64, 3) := by decide +kernel
theorem dX0_keepLeast_38 : decode cX0_keepLeast 38 = .ok (.return_, 1) := by decide +kernel
theorem dX0_mostOpen_0 : decode cX0_mostOpen 0 = .ok (.iconst (-1), 1) := by decide +kernel
theorem dX0_mostOpen_1 : decode cX0_mostOpen 1 = .ok (.istore_n 3, 1) := by decide +kernel
theorem dX0_mostOpen_2 : decode cX0_mostOpen 2 = .ok (.ldc2_w 70, 3) := by decide +kernel
theorem dX0_mostOpen_5 : decode cX0_mostOpen 5 = .ok (.lstore 4, 2) := by decide +kernel
theorem dX0_mostOpen_7 : decode cX0_mostOpen 7 = .ok (.iconst 0, 1) := by decide +kernel
theorem dX0_mostOpen_8 : decode cX0_mostOpen 8 = .ok (.istore 6, 2) := by decide +kernel
theorem dX0_mostOpen_10 : decode cX0_mostOpen 10 = .ok (.iload 6, 2) := by decide +kernel
theorem dX0_mostOpen_12 : decode cX0_mostOpen 12 = .ok (.bipush 16, 2) := by decide +kernel
theorem dX0_mostOpen_14 : decode cX0_mostOpen 14 = .ok (.if_icmp .ge 58, 3) := by decide +kernel
theorem dX0_mostOpen_17 : decode cX0_mostOpen 17 = .ok (.iload_n 1, 1) := by decide +kernel
theorem dX0_mostOpen_18 : decode cX0_mostOpen 18 = .ok (.iload 6, 2) := by decide +kernel
theorem dX0_mostOpen_20 : decode cX0_mostOpen 20 = .ok (.invokestatic 23, 3) := by decide +kernel
theorem dX0_mostOpen_23 : decode cX0_mostOpen 23 = .ok (.ifCond .eq 43, 3) := by decide +kernel
theorem dX0_mostOpen_26 : decode cX0_mostOpen 26 = .ok (.aload_n 0, 1) := by decide +kernel
theorem dX0_mostOpen_27 : decode cX0_mostOpen 27 = .ok (.iload 6, 2) := by decide +kernel
theorem dX0_mostOpen_29 : decode cX0_mostOpen 29 = .ok (.iconst (-1), 1) := by decide +kernel
theorem dX0_mostOpen_30 : decode cX0_mostOpen 30 = .ok (.iload_n 1, 1) := by decide +kernel
theorem dX0_mostOpen_31 : decode cX0_mostOpen 31 = .ok (.iload_n 2, 1) := by decide +kernel
theorem dX0_mostOpen_32 : decode cX0_mostOpen 32 = .ok (.invokevirtual 72, 3) := by decide +kernel
theorem dX0_mostOpen_35 : decode cX0_mostOpen 35 = .ok (.aload_n 0, 1) := by decide +kernel
theorem dX0_mostOpen_36 : decode cX0_mostOpen 36 = .ok (.iload 6, 2) := by decide +kernel
theorem dX0_mostOpen_38 : decode cX0_mostOpen 38 = .ok (.ldc 76, 2) := by decide +kernel
theorem dX0_mostOpen_40 : decode cX0_mostOpen 40 = .ok (.iload_n 1, 1) := by decide +kernel
theorem dX0_mostOpen_41 : decode cX0_mostOpen 41 = .ok (.iload_n 2, 1) := by decide +kernel
theorem dX0_mostOpen_42 : decode cX0_mostOpen 42 = .ok (.invokevirtual 72, 3) := by decide +kernel
theorem dX0_mostOpen_45 : decode cX0_mostOpen 45 = .ok (.lsub, 1) := by decide +kernel
theorem dX0_mostOpen_46 : decode cX0_mostOpen 46 = .ok (.invokestatic 77, 3) := by decide +kernel
theorem dX0_mostOpen_49 : decode cX0_mostOpen 49 = .ok (.lstore 7, 2) := by decide +kernel
theorem dX0_mostOpen_51 : decode cX0_mostOpen 51 = .ok (.lload 7, 2) := by decide +kernel
theorem dX0_mostOpen_53 : decode cX0_mostOpen 53 = .ok (.lload 4, 2) := by decide +kernel
theorem dX0_mostOpen_55 : decode cX0_mostOpen 55 = .ok (.lcmp, 1) := by decide +kernel
theorem dX0_mostOpen_56 : decode cX0_mostOpen 56 = .ok (.ifCond .le 10, 3) := by decide +kernel
theorem dX0_mostOpen_59 : decode cX0_mostOpen 59 = .ok (.iload 6, 2) := by decide +kernel
theorem dX0_mostOpen_61 : decode cX0_mostOpen 61 = .ok (.istore_n 3, 1) := by decide +kernel
theorem dX0_mostOpen_62 : decode cX0_mostOpen 62 = .ok (.lload 7, 2) := by decide +kernel
theorem dX0_mostOpen_64 : decode cX0_mostOpen 64 = .ok (.lstore 4, 2) := by decide +kernel
theorem dX0_mostOpen_66 : decode cX0_mostOpen 66 = .ok (.iinc 6 1, 3) := by decide +kernel
theorem dX0_mostOpen_69 : decode cX0_mostOpen 69 = .ok (.goto (-59), 3) := by decide +kernel
theorem dX0_mostOpen_72 : decode cX0_mostOpen 72 = .ok (.iload_n 3, 1) := by decide +kernel
theorem dX0_mostOpen_73 : decode cX0_mostOpen 73 = .ok (.ireturn, 1) := by decide +kernel
theorem dX0_ofHand_0 : decode cX0_ofHand 0 = .ok (.iconst 0, 1) := by decide +kernel
theorem dX0_ofHand_1 : decode cX0_ofHand 1 = .ok (.istore_n 3, 1) := by decide +kernel
theorem dX0_ofHand_2 : decode cX0_ofHand 2 = .ok (.iconst 0, 1) := by decide +kernel
theorem dX0_ofHand_3 : decode cX0_ofHand 3 = .ok (.istore 4, 2) := by decide +kernel
theorem dX0_ofHand_5 : decode cX0_ofHand 5 = .ok (.iload 4, 2) := by decide +kernel
theorem dX0_ofHand_7 : decode cX0_ofHand 7 = .ok (.bipush 16, 2) := by decide +kernel
theorem dX0_ofHand_9 : decode cX0_ofHand 9 = .ok (.if_icmp .ge 36, 3) := by decide +kernel
theorem dX0_ofHand_12 : decode cX0_ofHand 12 = .ok (.iload_n 2, 1) := by decide +kernel
theorem dX0_ofHand_13 : decode cX0_ofHand 13 = .ok (.iload 4, 2) := by decide +kernel
theorem dX0_ofHand_15 : decode cX0_ofHand 15 = .ok (.invokestatic 23, 3) := by decide +kernel
theorem dX0_ofHand_18 : decode cX0_ofHand 18 = .ok (.ifCond .eq 21, 3) := by decide +kernel
theorem dX0_ofHand_21 : decode cX0_ofHand 21 = .ok (.aload_n 0, 1) := by decide +kernel
theorem dX0_ofHand_22 : decode cX0_ofHand 22 = .ok (.getfield 9, 3) := by decide +kernel
theorem dX0_ofHand_25 : decode cX0_ofHand 25 = .ok (.iload 4, 2) := by decide +kernel
theorem dX0_ofHand_27 : decode cX0_ofHand 27 = .ok (.iaload, 1) := by decide +kernel
theorem dX0_ofHand_28 : decode cX0_ofHand 28 = .ok (.iload_n 1, 1) := by decide +kernel
theorem dX0_ofHand_29 : decode cX0_ofHand 29 = .ok (.if_icmp .ne 10, 3) := by decide +kernel
theorem dX0_ofHand_32 : decode cX0_ofHand 32 = .ok (.iload_n 3, 1) := by decide +kernel
theorem dX0_ofHand_33 : decode cX0_ofHand 33 = .ok (.iconst 1, 1) := by decide +kernel
theorem dX0_ofHand_34 : decode cX0_ofHand 34 = .ok (.iload 4, 2) := by decide +kernel
theorem dX0_ofHand_36 : decode cX0_ofHand 36 = .ok (.ishl, 1) := by decide +kernel
theorem dX0_ofHand_37 : decode cX0_ofHand 37 = .ok (.ior, 1) := by decide +kernel
theorem dX0_ofHand_38 : decode cX0_ofHand 38 = .ok (.istore_n 3, 1) := by decide +kernel
theorem dX0_ofHand_39 : decode cX0_ofHand 39 = .ok (.iinc 4 1, 3) := by decide +kernel
theorem dX0_ofHand_42 : decode cX0_ofHand 42 = .ok (.goto (-37), 3) := by decide +kernel
theorem dX0_ofHand_45 : decode cX0_ofHand 45 = .ok (.iload_n 3, 1) := by decide +kernel
theorem dX0_ofHand_46 : decode cX0_ofHand 46 = .ok (.ireturn, 1) := by decide +kernel
theorem dX0_pairs_0 : decode cX0_pairs 0 = .ok (.iconst 0, 1) := by decide +kernel
theorem dX0_pairs_1 : decode cX0_pairs 1 = .ok (.istore_n 3, 1) := by decide +kernel
theorem dX0_pairs_2 : decode cX0_pairs 2 = .ok (.iconst 0, 1) := by decide +kernel
theorem dX0_pairs_3 : decode cX0_pairs 3 = .ok (.istore 4, 2) := by decide +kernel
theorem dX0_pairs_5 : decode cX0_pairs 5 = .ok (.iload 4, 2) := by decide +kernel
theorem dX0_pairs_7 : decode cX0_pairs 7 = .ok (.bipush 16, 2) := by decide +kernel
theorem dX0_pairs_9 : decode cX0_pairs 9 = .ok (.if_icmp .ge 28, 3) := by decide +kernel
theorem dX0_pairs_12 : decode cX0_pairs 12 = .ok (.iload_n 2, 1) := by decide +kernel
theorem dX0_pairs_13 : decode cX0_pairs 13 = .ok (.iload 4, 2) := by decide +kernel
theorem dX0_pairs_15 : decode cX0_pairs 15 = .ok (.invokestatic 23, 3) := by decide +kernel
theorem dX0_pairs_18 : decode cX0_pairs 18 = .ok (.ifCond .eq 13, 3) := by decide +kernel
theorem dX0_pairs_21 : decode cX0_pairs 21 = .ok (.iload_n 3, 1) := by decide +kernel
theorem dX0_pairs_22 : decode cX0_pairs 22 = .ok (.aload_n 0, 1) := by decide +kernel
theorem dX0_pairs_23 : decode cX0_pairs 23 = .ok (.iload 4, 2) := by decide +kernel
theorem dX0_pairs_25 : decode cX0_pairs 25 = .ok (.iload_n 1, 1) := by decide +kernel
theorem dX0_pairs_26 : decode cX0_pairs 26 = .ok (.invokevirtual 27, 3) := by decide +kernel
theorem dX0_pairs_29 : decode cX0_pairs 29 = .ok (.iadd, 1) := by decide +kernel
theorem dX0_pairs_30 : decode cX0_pairs 30 = .ok (.istore_n 3, 1) := by decide +kernel
theorem dX0_pairs_31 : decode cX0_pairs 31 = .ok (.iinc 4 1, 3) := by decide +kernel
theorem dX0_pairs_34 : decode cX0_pairs 34 = .ok (.goto (-29), 3) := by decide +kernel
theorem dX0_pairs_37 : decode cX0_pairs 37 = .ok (.iload_n 3, 1) := by decide +kernel
theorem dX0_pairs_38 : decode cX0_pairs 38 = .ok (.ireturn, 1) := by decide +kernel
theorem dX10_about_0 : decode cX10_about 0 = .ok (.aload_n 0, 1) := by decide +kernel
theorem dX10_about_1 : decode cX10_about 1 = .ok (.iload_n 1, 1) := by decide +kernel
theorem dX10_about_2 : decode cX10_about 2 = .ok (.invokevirtual 191, 3) := by decide +kernel
theorem dX10_about_5 : decode cX10_about 5 = .ok (.ifCond .ne 6, 3) := by decide +kernel
theorem dX10_about_8 : decode cX10_about 8 = .ok (.bipush (-101), 2) := by decide +kernel
theorem dX10_about_10 : decode cX10_about 10 = .ok (.ireturn, 1) := by decide +kernel
theorem dX10_about_11 : decode cX10_about 11 = .ok (.iload_n 2, 1) := by decide +kernel
theorem dX10_about_12 : decode cX10_about 12 = .ok (.i2l, 1) := by decide +kernel
theorem dX10_about_13 : decode cX10_about 13 = .ok (.lconst 0, 1) := by decide +kernel
theorem dX10_about_14 : decode cX10_about 14 = .ok (.ldc2_w 201, 3) := by decide +kernel
theorem dX10_about_17 : decode cX10_about 17 = .ok (.invokestatic 98, 3) := by decide +kernel
theorem dX10_about_20 : decode cX10_about 20 = .ok (.ifCond .eq 15, 3) := by decide +kernel
theorem dX10_about_23 : decode cX10_about 23 = .ok (.aload_n 0, 1) := by decide +kernel
theorem dX10_about_24 : decode cX10_about 24 = .ok (.getfield 37, 3) := by decide +kernel
theorem dX10_about_27 : decode cX10_about 27 = .ok (.bipush 6, 2) := by decide +kernel
theorem dX10_about_29 : decode cX10_about 29 = .ok (.iload_n 1, 1) := by decide +kernel
theorem dX10_about_30 : decode cX10_about 30 = .ok (.imul, 1) := by decide +kernel
theorem dX10_about_31 : decode cX10_about 31 = .ok (.iload_n 2, 1) := by decide +kernel
theorem dX10_about_32 : decode cX10_about 32 = .ok (.iadd, 1) := by decide +kernel
theorem dX10_about_33 : decode cX10_about 33 = .ok (.iaload, 1) := by decide +kernel
theorem dX10_about_34 : decode cX10_about 34 = .ok (.ireturn, 1) := by decide +kernel
theorem dX10_about_35 : decode cX10_about 35 = .ok (.iload_n 2, 1) := by decide +kernel
theorem dX10_about_36 : decode cX10_about 36 = .ok (.i2l, 1) := by decide +kernel
theorem dX10_about_37 : decode cX10_about 37 = .ok (.ldc2_w 203, 3) := by decide +kernel
theorem dX10_about_40 : decode cX10_about 40 = .ok (.ldc2_w 205, 3) := by decide +kernel
theorem dX10_about_43 : decode cX10_about 43 = .ok (.invokestatic 98, 3) := by decide +kernel
theorem dX10_about_46 : decode cX10_about 46 = .ok (.ifCond .eq 15, 3) := by decide +kernel
theorem dX10_about_49 : decode cX10_about 49 = .ok (.aload_n 0, 1) := by decide +kernel
theorem dX10_about_50 : decode cX10_about 50 = .ok (.iload_n 1, 1) := by decide +kernel
theorem dX10_about_51 : decode cX10_about 51 = .ok (.iload_n 2, 1) := by decide +kernel
theorem dX10_about_52 : decode cX10_about 52 = .ok (.bipush 10, 2) := by decide +kernel
theorem dX10_about_54 : decode cX10_about 54 = .ok (.isub, 1) := by decide +kernel
theorem dX10_about_55 : decode cX10_about 55 = .ok (.invokevirtual 207, 3) := by decide +kernel
theorem dX10_about_58 : decode cX10_about 58 = .ok (.goto 5, 3) := by decide +kernel
theorem dX10_about_61 : decode cX10_about 61 = .ok (.bipush (-102), 2) := by decide +kernel
theorem dX10_about_63 : decode cX10_about 63 = .ok (.ireturn, 1) := by decide +kernel
theorem dX10_add_0 : decode cX10_add 0 = .ok (.bipush 6, 2) := by decide +kernel
theorem dX10_add_2 : decode cX10_add 2 = .ok (.aload_n 0, 1) := by decide +kernel
theorem dX10_add_3 : decode cX10_add 3 = .ok (.getfield 178, 3) := by decide +kernel
theorem dX10_add_6 : decode cX10_add 6 = .ok (.imul, 1) := by decide +kernel
theorem dX10_add_7 : decode cX10_add 7 = .ok (.istore 7, 2) := by decide +kernel
theorem dX10_add_9 : decode cX10_add 9 = .ok (.aload_n 0, 1) := by decide +kernel
theorem dX10_add_10 : decode cX10_add 10 = .ok (.getfield 37, 3) := by decide +kernel
theorem dX10_add_13 : decode cX10_add 13 = .ok (.iload 7, 2) := by decide +kernel
theorem dX10_add_15 : decode cX10_add 15 = .ok (.iload_n 1, 1) := by decide +kernel
theorem dX10_add_16 : decode cX10_add 16 = .ok (.iastore, 1) := by decide +kernel
theorem dX10_add_17 : decode cX10_add 17 = .ok (.aload_n 0, 1) := by decide +kernel
theorem dX10_add_18 : decode cX10_add 18 = .ok (.getfield 37, 3) := by decide +kernel
theorem dX10_add_21 : decode cX10_add 21 = .ok (.iload 7, 2) := by decide +kernel
theorem dX10_add_23 : decode cX10_add 23 = .ok (.iconst 1, 1) := by decide +kernel
theorem dX10_add_24 : decode cX10_add 24 = .ok (.iadd, 1) := by decide +kernel
theorem dX10_add_25 : decode cX10_add 25 = .ok (.iload_n 2, 1) := by decide +kernel
theorem dX10_add_26 : decode cX10_add 26 = .ok (.iastore, 1) := by decide +kernel
theorem dX10_add_27 : decode cX10_add 27 = .ok (.aload_n 0, 1) := by decide +kernel
theorem dX10_add_28 : decode cX10_add 28 = .ok (.getfield 37, 3) := by decide +kernel
theorem dX10_add_31 : decode cX10_add 31 = .ok (.iload 7, 2) := by decide +kernel
theorem dX10_add_33 : decode cX10_add 33 = .ok (.iconst 2, 1) := by decide +kernel
theorem dX10_add_34 : decode cX10_add 34 = .ok (.iadd, 1) := by decide +kernel
theorem dX10_add_35 : decode cX10_add 35 = .ok (.iload_n 3, 1) := by decide +kernel
theorem dX10_add_36 : decode cX10_add 36 = .ok (.iastore, 1) := by decide +kernel
theorem dX10_add_37 : decode cX10_add 37 = .ok (.aload_n 0, 1) := by decide +kernel
theorem dX10_add_38 : decode cX10_add 38 = .ok (.getfield 37, 3) := by decide +kernel
theorem dX10_add_41 : decode cX10_add 41 = .ok (.iload 7, 2) := by decide +kernel
theorem dX10_add_43 : decode cX10_add 43 = .ok (.iconst 3, 1) := by decide +kernel
theorem dX10_add_44 : decode cX10_add 44 = .ok (.iadd, 1) := by decide +kernel
theorem dX10_add_45 : decode cX10_add 45 = .ok (.iload_n 1, 1) := by decide +kernel
theorem dX10_add_46 : decode cX10_add 46 = .ok (.iconst 1, 1) := by decide +kernel
theorem dX10_add_47 : decode cX10_add 47 = .ok (.if_icmp .eq 8, 3) := by decide +kernel
theorem dX10_add_50 : decode cX10_add 50 = .ok (.iload_n 1, 1) := by decide +kernel
theorem dX10_add_51 : decode cX10_add 51 = .ok (.iconst 2, 1) := by decide +kernel
theorem dX10_add_52 : decode cX10_add 52 = .ok (.if_icmp .ne 7, 3) := by decide +kernel
theorem dX10_add_55 : decode cX10_add 55 = .ok (.iconst 0, 1) := by decide +kernel
theorem dX10_add_56 : decode cX10_add 56 = .ok (.goto 5, 3) := by decide +kernel
theorem dX10_add_59 : decode cX10_add 59 = .ok (.iload 4, 2) := by decide +kernel
theorem dX10_add_61 : decode cX10_add 61 = .ok (.iastore, 1) := by decide +kernel
theorem dX10_add_62 : decode cX10_add 62 = .ok (.aload_n 0, 1) := by decide +kernel
theorem dX10_add_63 : decode cX10_add 63 = .ok (.getfield 37, 3) := by decide +kernel
theorem dX10_add_66 : decode cX10_add 66 = .ok (.iload 7, 2) := by decide +kernel
theorem dX10_add_68 : decode cX10_add 68 = .ok (.iconst 4, 1) := by decide +kernel
theorem dX10_add_69 : decode cX10_add 69 = .ok (.iadd, 1) := by decide +kernel
theorem dX10_add_70 : decode cX10_add 70 = .ok (.iload 5, 2) := by decide +kernel
theorem dX10_add_72 : decode cX10_add 72 = .ok (.iastore, 1) := by decide +kernel
theorem dX10_add_73 : decode cX10_add 73 = .ok (.aload_n 0, 1) := by decide +kernel
theorem dX10_add_74 : decode cX10_add 74 = .ok (.getfield 37, 3) := by decide +kernel
theorem dX10_add_77 : decode cX10_add 77 = .ok (.iload 7, 2) := by decide +kernel
theorem dX10_add_79 : decode cX10_add 79 = .ok (.iconst 5, 1) := by decide +kernel
theorem dX10_add_80 : decode cX10_add 80 = .ok (.iadd, 1) := by decide +kernel
theorem dX10_add_81 : decode cX10_add 81 = .ok (.iload 6, 2) := by decide +kernel
theorem dX10_add_83 : decode cX10_add 83 = .ok (.iastore, 1) := by decide +kernel
theorem dX10_add_84 : decode cX10_add 84 = .ok (.iconst 0, 1) := by decide +kernel
theorem dX10_add_85 : decode cX10_add 85 = .ok (.istore 8, 2) := by decide +kernel
theorem dX10_add_87 : decode cX10_add 87 = .ok (.iload 8, 2) := by decide +kernel
theorem dX10_add_89 : decode cX10_add 89 = .ok (.bipush 12, 2) := by decide +kernel
theorem dX10_add_91 : decode cX10_add 91 = .ok (.if_icmp .ge 25, 3) := by decide +kernel
theorem dX10_add_94 : decode cX10_add 94 = .ok (.aload_n 0, 1) := by decide +kernel
theorem dX10_add_95 : decode cX10_add 95 = .ok (.getfield 40, 3) := by decide +kernel
theorem dX10_add_98 : decode cX10_add 98 = .ok (.bipush 12, 2) := by decide +kernel
theorem dX10_add_100 : decode cX10_add 100 = .ok (.aload_n 0, 1) := by decide +kernel
theorem dX10_add_101 : decode cX10_add 101 = .ok (.getfield 178, 3) := by decide +kernel
theorem dX10_add_104 : decode cX10_add 104 = .ok (.imul, 1) := by decide +kernel
theorem dX10_add_105 : decode cX10_add 105 = .ok (.iload 8, 2) := by decide +kernel
theorem dX10_add_107 : decode cX10_add 107 = .ok (.iadd, 1) := by decide +kernel
theorem dX10_add_108 : decode cX10_add 108 = .ok (.iconst 0, 1) := by decide +kernel
theorem dX10_add_109 : decode cX10_add 109 = .ok (.iastore, 1) := by decide +kernel
theorem dX10_add_110 : decode cX10_add 110 = .ok (.iinc 8 1, 3) := by decide +kernel
theorem dX10_add_113 : decode cX10_add 113 = .ok (.goto (-26), 3) := by decide +kernel
theorem dX10_add_116 : decode cX10_add 116 = .ok (.aload_n 0, 1) := by decide +kernel
theorem dX10_add_117 : decode cX10_add 117 = .ok (.dup, 1) := by decide +kernel
theorem dX10_add_118 : decode cX10_add 118 = .ok (.getfield 178, 3) := by decide +kernel
theorem dX10_add_121 : decode cX10_add 121 = .ok (.iconst 1, 1) := by decide +kernel
theorem dX10_add_122 : decode cX10_add 122 = .ok (.iadd, 1) := by decide +kernel
theorem dX10_add_123 : decode cX10_add 123 = .ok (.putfield 178, 3) := by decide +kernel
theorem dX10_add_126 : decode cX10_add 126 = .ok (.return_, 1) := by decide +kernel
theorem dX10_as_0 : decode cX10_as 0 = .ok (.aload_n 0, 1) := by decide +kernel
theorem dX10_as_1 : decode cX10_as 1 = .ok (.iload_n 1, 1) := by decide +kernel
theorem dX10_as_2 : decode cX10_as 2 = .ok (.invokevirtual 191, 3) := by decide +kernel
theorem dX10_as_5 : decode cX10_as 5 = .ok (.ifCond .ne 6, 3) := by decide +kernel
theorem dX10_as_8 : decode cX10_as 8 = .ok (.bipush (-101), 2) := by decide +kernel
theorem dX10_as_10 : decode cX10_as 10 = .ok (.ireturn, 1) := by decide +kernel
theorem dX10_as_11 : decode cX10_as 11 = .ok (.iload_n 2, 1) := by decide +kernel
theorem dX10_as_12 : decode cX10_as 12 = .ok (.i2l, 1) := by decide +kernel
theorem dX10_as_13 : decode cX10_as 13 = .ok (.lconst 0, 1) := by decide +kernel
theorem dX10_as_14 : decode cX10_as 14 = .ok (.ldc2_w 181, 3) := by decide +kernel
theorem dX10_as_17 : decode cX10_as 17 = .ok (.invokestatic 98, 3) := by decide +kernel
theorem dX10_as_20 : decode cX10_as 20 = .ok (.ifCond .ne 6, 3) := by decide +kernel
theorem dX10_as_23 : decode cX10_as 23 = .ok (.bipush (-102), 2) := by decide +kernel
theorem dX10_as_25 : decode cX10_as 25 = .ok (.ireturn, 1) := by decide +kernel
theorem dX10_as_26 : decode cX10_as 26 = .ok (.aload_n 0, 1) := by decide +kernel
theorem dX10_as_27 : decode cX10_as 27 = .ok (.getfield 37, 3) := by decide +kernel
theorem dX10_as_30 : decode cX10_as 30 = .ok (.bipush 6, 2) := by decide +kernel
theorem dX10_as_32 : decode cX10_as 32 = .ok (.iload_n 1, 1) := by decide +kernel
theorem dX10_as_33 : decode cX10_as 33 = .ok (.imul, 1) := by decide +kernel
theorem dX10_as_34 : decode cX10_as 34 = .ok (.iaload, 1) := by decide +kernel
theorem dX10_as_35 : decode cX10_as 35 = .ok (.istore_n 3, 1) := by decide +kernel
theorem dX10_as_36 : decode cX10_as 36 = .ok (.iload_n 2, 1) := by decide +kernel
theorem dX10_as_37 : decode cX10_as 37 = .ok (.ifCond .eq 18, 3) := by decide +kernel
theorem dX10_as_40 : decode cX10_as 40 = .ok (.iload_n 2, 1) := by decide +kernel
theorem dX10_as_41 : decode cX10_as 41 = .ok (.iload_n 3, 1) := by decide +kernel
theorem dX10_as_42 : decode cX10_as 42 = .ok (.if_icmp .eq 13, 3) := by decide +kernel
theorem dX10_as_45 : decode cX10_as 45 = .ok (.iload_n 2, 1) := by decide +kernel
theorem dX10_as_46 : decode cX10_as 46 = .ok (.iconst 1, 1) := by decide +kernel
theorem dX10_as_47 : decode cX10_as 47 = .ok (.if_icmp .ne 12, 3) := by decide +kernel
theorem dX10_as_50 : decode cX10_as 50 = .ok (.iload_n 3, 1) := by decide +kernel
theorem dX10_as_51 : decode cX10_as 51 = .ok (.iconst 2, 1) := by decide +kernel
theorem dX10_as_52 : decode cX10_as 52 = .ok (.if_icmp .ne 7, 3) := by decide +kernel
theorem dX10_as_55 : decode cX10_as 55 = .ok (.iconst 1, 1) := by decide +kernel
theorem dX10_as_56 : decode cX10_as 56 = .ok (.goto 4, 3) := by decide +kernel
theorem dX10_as_59 : decode cX10_as 59 = .ok (.iconst 0, 1) := by decide +kernel
theorem dX10_as_60 : decode cX10_as 60 = .ok (.istore 4, 2) := by decide +kernel
theorem dX10_as_62 : decode cX10_as 62 = .ok (.iload 4, 2) := by decide +kernel
theorem dX10_as_64 : decode cX10_as 64 = .ok (.ifCond .eq 7, 3) := by decide +kernel
theorem dX10_as_67 : decode cX10_as 67 = .ok (.iload_n 1, 1) := by decide +kernel
theorem dX10_as_68 : decode cX10_as 68 = .ok (.goto 4, 3) := by decide +kernel
theorem dX10_as_71 : decode cX10_as 71 = .ok (.iconst (-1), 1) := by decide +kernel
theorem dX10_as_72 : decode cX10_as 72 = .ok (.ireturn, 1) := by decide +kernel
theorem dX10_back_0 : decode cX10_back 0 = .ok (.aload_n 0, 1) := by decide +kernel
theorem dX10_back_1 : decode cX10_back 1 = .ok (.iload_n 1, 1) := by decide +kernel
theorem dX10_back_2 : decode cX10_back 2 = .ok (.invokevirtual 215, 3) := by decide +kernel
theorem dX10_back_5 : decode cX10_back 5 = .ok (.ifCond .ne 6, 3) := by decide +kernel
theorem dX10_back_8 : decode cX10_back 8 = .ok (.bipush (-101), 2) := by decide +kernel
theorem dX10_back_10 : decode cX10_back 10 = .ok (.ireturn, 1) := by decide +kernel
theorem dX10_back_11 : decode cX10_back 11 = .ok (.iload_n 2, 1) := by decide +kernel
theorem dX10_back_12 : decode cX10_back 12 = .ok (.i2l, 1) := by decide +kernel
theorem dX10_back_13 : decode cX10_back 13 = .ok (.lconst 0, 1) := by decide +kernel
theorem dX10_back_14 : decode cX10_back 14 = .ok (.ldc2_w 171, 3) := by decide +kernel
theorem dX10_back_17 : decode cX10_back 17 = .ok (.invokestatic 98, 3) := by decide +kernel
theorem dX10_back_20 : decode cX10_back 20 = .ok (.ifCond .eq 10, 3) := by decide +kernel
theorem dX10_back_23 : decode cX10_back 23 = .ok (.iload_n 3, 1) := by decide +kernel
theorem dX10_back_24 : decode cX10_back 24 = .ok (.invokestatic 288, 3) := by decide +kernel
theorem dX10_back_27 : decode cX10_back 27 = .ok (.ifCond .ne 6, 3) := by decide +kernel
theorem dX10_back_30 : decode cX10_back 30 = .ok (.bipush (-102), 2) := by decide +kernel
theorem dX10_back_32 : decode cX10_back 32 = .ok (.ireturn, 1) := by decide +kernel
theorem dX10_back_33 : decode cX10_back 33 = .ok (.aload_n 0, 1) := by decide +kernel
theorem dX10_back_34 : decode cX10_back 34 = .ok (.getfield 165, 3) := by decide +kernel
theorem dX10_back_37 : decode cX10_back 37 = .ok (.ifCond .ne 6, 3) := by decide +kernel
theorem dX10_back_40 : decode cX10_back 40 = .ok (.bipush (-103), 2) := by decide +kernel
theorem dX10_back_42 : decode cX10_back 42 = .ok (.ireturn, 1) := by decide +kernel
theorem dX10_back_43 : decode cX10_back 43 = .ok (.iconst 0, 1) := by decide +kernel
theorem dX10_back_44 : decode cX10_back 44 = .ok (.istore 4, 2) := by decide +kernel
theorem dX10_back_46 : decode cX10_back 46 = .ok (.aload_n 0, 1) := by decide +kernel
theorem dX10_back_47 : decode cX10_back 47 = .ok (.getfield 165, 3) := by decide +kernel
theorem dX10_back_50 : decode cX10_back 50 = .ok (.istore 5, 2) := by decide +kernel
theorem dX10_back_52 : decode cX10_back 52 = .ok (.aload_n 0, 1) := by decide +kernel
theorem dX10_back_53 : decode cX10_back 53 = .ok (.getfield 69, 3) := by decide +kernel
theorem dX10_back_56 : decode cX10_back 56 = .ok (.iload_n 2, 1) := by decide +kernel
theorem dX10_back_57 : decode cX10_back 57 = .ok (.iaload, 1) := by decide +kernel
theorem dX10_back_58 : decode cX10_back 58 = .ok (.iconst (-1), 1) := by decide +kernel
theorem dX10_back_59 : decode cX10_back 59 = .ok (.if_icmp .eq 19, 3) := by decide +kernel
theorem dX10_back_62 : decode cX10_back 62 = .ok (.aload_n 0, 1) := by decide +kernel
theorem dX10_back_63 : decode cX10_back 63 = .ok (.getfield 69, 3) := by decide +kernel
theorem dX10_back_66 : decode cX10_back 66 = .ok (.iload_n 2, 1) := by decide +kernel
theorem dX10_back_67 : decode cX10_back 67 = .ok (.iaload, 1) := by decide +kernel
theorem dX10_back_68 : decode cX10_back 68 = .ok (.istore 4, 2) := by decide +kernel
theorem dX10_back_70 : decode cX10_back 70 = .ok (.aload_n 0, 1) := by decide +kernel
theorem dX10_back_71 : decode cX10_back 71 = .ok (.getfield 72, 3) := by decide +kernel
theorem dX10_back_74 : decode cX10_back 74 = .ok (.iload_n 2, 1) := by decide +kernel
theorem dX10_back_75 : decode cX10_back 75 = .ok (.iaload, 1) := by decide +kernel
theorem dX10_back_76 : decode cX10_back 76 = .ok (.istore 5, 2) := by decide +kernel
theorem dX10_back_78 : decode cX10_back 78 = .ok (.iconst 0, 1) := by decide +kernel
theorem dX10_back_79 : decode cX10_back 79 = .ok (.istore 6, 2) := by decide +kernel
theorem dX10_back_81 : decode cX10_back 81 = .ok (.iload 6, 2) := by decide +kernel
theorem dX10_back_83 : decode cX10_back 83 = .ok (.aload_n 0, 1) := by decide +kernel
theorem dX10_back_84 : decode cX10_back 84 = .ok (.getfield 178, 3) := by decide +kernel
theorem dX10_back_87 : decode cX10_back 87 = .ok (.if_icmp .ge 101, 3) := by decide +kernel
theorem dX10_back_90 : decode cX10_back 90 = .ok (.aload_n 0, 1) := by decide +kernel
theorem dX10_back_91 : decode cX10_back 91 = .ok (.iload 6, 2) := by decide +kernel
theorem dX10_back_93 : decode cX10_back 93 = .ok (.invokevirtual 228, 3) := by decide +kernel
theorem dX10_back_96 : decode cX10_back 96 = .ok (.ifCond .eq 86, 3) := by decide +kernel
theorem dX10_back_99 : decode cX10_back 99 = .ok (.aload_n 0, 1) := by decide +kernel
theorem dX10_back_100 : decode cX10_back 100 = .ok (.getfield 37, 3) := by decide +kernel
theorem dX10_back_103 : decode cX10_back 103 = .ok (.bipush 6, 2) := by decide +kernel
theorem dX10_back_105 : decode cX10_back 105 = .ok (.iload 6, 2) := by decide +kernel
theorem dX10_back_107 : decode cX10_back 107 = .ok (.imul, 1) := by decide +kernel
theorem dX10_back_108 : decode cX10_back 108 = .ok (.iconst 2, 1) := by decide +kernel
theorem dX10_back_109 : decode cX10_back 109 = .ok (.iadd, 1) := by decide +kernel
theorem dX10_back_110 : decode cX10_back 110 = .ok (.iaload, 1) := by decide +kernel
theorem dX10_back_111 : decode cX10_back 111 = .ok (.iload_n 2, 1) := by decide +kernel
theorem dX10_back_112 : decode cX10_back 112 = .ok (.if_icmp .ne 70, 3) := by decide +kernel
theorem dX10_back_115 : decode cX10_back 115 = .ok (.aload_n 0, 1) := by decide +kernel
theorem dX10_back_116 : decode cX10_back 116 = .ok (.getfield 37, 3) := by decide +kernel
theorem dX10_back_119 : decode cX10_back 119 = .ok (.bipush 6, 2) := by decide +kernel
theorem dX10_back_121 : decode cX10_back 121 = .ok (.iload 6, 2) := by decide +kernel
theorem dX10_back_123 : decode cX10_back 123 = .ok (.imul, 1) := by decide +kernel
theorem dX10_back_124 : decode cX10_back 124 = .ok (.iconst 3, 1) := by decide +kernel
theorem dX10_back_125 : decode cX10_back 125 = .ok (.iadd, 1) := by decide +kernel
theorem dX10_back_126 : decode cX10_back 126 = .ok (.iaload, 1) := by decide +kernel
theorem dX10_back_127 : decode cX10_back 127 = .ok (.ifCond .ne 55, 3) := by decide +kernel
theorem dX10_back_130 : decode cX10_back 130 = .ok (.aload_n 0, 1) := by decide +kernel
theorem dX10_back_131 : decode cX10_back 131 = .ok (.iload_n 1, 1) := by decide +kernel
theorem dX10_back_132 : decode cX10_back 132 = .ok (.iload 6, 2) := by decide +kernel
theorem dX10_back_134 : decode cX10_back 134 = .ok (.invokevirtual 312, 3) := by decide +kernel
theorem dX10_back_137 : decode cX10_back 137 = .ok (.iload 4, 2) := by decide +kernel
theorem dX10_back_139 : decode cX10_back 139 = .ok (.if_icmp .le 13, 3) := by decide +kernel
theorem dX10_back_142 : decode cX10_back 142 = .ok (.aload_n 0, 1) := by decide +kernel
theorem dX10_back_143 : decode cX10_back 143 = .ok (.iload_n 1, 1) := by decide +kernel
theorem dX10_back_144 : decode cX10_back 144 = .ok (.iload 6, 2) := by decide +kernel
theorem dX10_back_146 : decode cX10_back 146 = .ok (.invokevirtual 312, 3) := by decide +kernel
theorem dX10_back_149 : decode cX10_back 149 = .ok (.goto 5, 3) := by decide +kernel
theorem dX10_back_152 : decode cX10_back 152 = .ok (.iload 4, 2) := by decide +kernel
theorem dX10_back_154 : decode cX10_back 154 = .ok (.istore 4, 2) := by decide +kernel
theorem dX10_back_156 : decode cX10_back 156 = .ok (.aload_n 0, 1) := by decide +kernel
theorem dX10_back_157 : decode cX10_back 157 = .ok (.iload_n 1, 1) := by decide +kernel
theorem dX10_back_158 : decode cX10_back 158 = .ok (.iload 6, 2) := by decide +kernel
theorem dX10_back_160 : decode cX10_back 160 = .ok (.invokevirtual 315, 3) := by decide +kernel
theorem dX10_back_163 : decode cX10_back 163 = .ok (.iload 5, 2) := by decide +kernel
theorem dX10_back_165 : decode cX10_back 165 = .ok (.if_icmp .ge 13, 3) := by decide +kernel
theorem dX10_back_168 : decode cX10_back 168 = .ok (.aload_n 0, 1) := by decide +kernel
theorem dX10_back_169 : decode cX10_back 169 = .ok (.iload_n 1, 1) := by decide +kernel
theorem dX10_back_170 : decode cX10_back 170 = .ok (.iload 6, 2) := by decide +kernel
theorem dX10_back_172 : decode cX10_back 172 = .ok (.invokevirtual 315, 3) := by decide +kernel
theorem dX10_back_175 : decode cX10_back 175 = .ok (.goto 5, 3) := by decide +kernel
theorem dX10_back_178 : decode cX10_back 178 = .ok (.iload 5, 2) := by decide +kernel
theorem dX10_back_180 : decode cX10_back 180 = .ok (.istore 5, 2) := by decide +kernel
theorem dX10_back_182 : decode cX10_back 182 = .ok (.iinc 6 1, 3) := by decide +kernel
theorem dX10_back_185 : decode cX10_back 185 = .ok (.goto (-104), 3) := by decide +kernel
theorem dX10_back_188 : decode cX10_back 188 = .ok (.iload 4, 2) := by decide +kernel
theorem dX10_back_190 : decode cX10_back 190 = .ok (.iload 5, 2) := by decide +kernel
theorem dX10_back_192 : decode cX10_back 192 = .ok (.if_icmp .le 7, 3) := by decide +kernel
theorem dX10_back_195 : decode cX10_back 195 = .ok (.iconst (-1), 1) := by decide +kernel
theorem dX10_back_196 : decode cX10_back 196 = .ok (.goto 14, 3) := by decide +kernel
theorem dX10_back_199 : decode cX10_back 199 = .ok (.iload_n 3, 1) := by decide +kernel
theorem dX10_back_200 : decode cX10_back 200 = .ok (.ifCond .ne 8, 3) := by decide +kernel
theorem dX10_back_203 : decode cX10_back 203 = .ok (.iload 4, 2) := by decide +kernel
theorem dX10_back_205 : decode cX10_back 205 = .ok (.goto 5, 3) := by decide +kernel
theorem dX10_back_208 : decode cX10_back 208 = .ok (.iload 5, 2) := by decide +kernel
theorem dX10_back_210 : decode cX10_back 210 = .ok (.ireturn, 1) := by decide +kernel
theorem dX10_between_0 : decode cX10_between 0 = .ok (.iload_n 0, 1) := by decide +kernel
theorem dX10_between_1 : decode cX10_between 1 = .ok (.ifCond .ge 7, 3) := by decide +kernel
theorem dX10_between_4 : decode cX10_between 4 = .ok (.iconst 0, 1) := by decide +kernel
theorem dX10_between_5 : decode cX10_between 5 = .ok (.goto 15, 3) := by decide +kernel
theorem dX10_between_8 : decode cX10_between 8 = .ok (.iload_n 0, 1) := by decide +kernel
theorem dX10_between_9 : decode cX10_between 9 = .ok (.bipush 99, 2) := by decide +kernel
theorem dX10_between_11 : decode cX10_between 11 = .ok (.if_icmp .le 8, 3) := by decide +kernel
theorem dX10_between_14 : decode cX10_between 14 = .ok (.bipush 99, 2) := by decide +kernel
theorem dX10_between_16 : decode cX10_between 16 = .ok (.goto 4, 3) := by decide +kernel
theorem dX10_between_19 : decode cX10_between 19 = .ok (.iload_n 0, 1) := by decide +kernel
theorem dX10_between_20 : decode cX10_between 20 = .ok (.ireturn, 1) := by decide +kernel
theorem dX10_blank_0 : decode cX10_blank 0 = .ok (.aload_n 0, 1) := by decide +kernel
theorem dX10_blank_1 : decode cX10_blank 1 = .ok (.getfield 104, 3) := by decide +kernel
theorem dX10_blank_4 : decode cX10_blank 4 = .ok (.istore_n 1, 1) := by decide +kernel
theorem dX10_blank_5 : decode cX10_blank 5 = .ok (.aload_n 0, 1) := by decide +kernel
theorem dX10_blank_6 : decode cX10_blank 6 = .ok (.iconst 0, 1) := by decide +kernel
theorem dX10_blank_7 : decode cX10_blank 7 = .ok (.putfield 104, 3) := by decide +kernel
theorem dX10_blank_10 : decode cX10_blank 10 = .ok (.iload_n 1, 1) := by decide +kernel
theorem dX10_blank_11 : decode cX10_blank 11 = .ok (.ireturn, 1) := by decide +kernel
theorem dX10_classOf_0 : decode cX10_classOf 0 = .ok (.iconst 0, 1) := by decide +kernel
theorem dX10_classOf_1 : decode cX10_classOf 1 = .ok (.istore_n 2, 1) := by decide +kernel
theorem dX10_classOf_2 : decode cX10_classOf 2 = .ok (.iconst 0, 1) := by decide +kernel
theorem dX10_classOf_3 : decode cX10_classOf 3 = .ok (.istore_n 3, 1) := by decide +kernel
theorem dX10_classOf_4 : decode cX10_classOf 4 = .ok (.iload_n 3, 1) := by decide +kernel
theorem dX10_classOf_5 : decode cX10_classOf 5 = .ok (.aload_n 0, 1) := by decide +kernel
theorem dX10_classOf_6 : decode cX10_classOf 6 = .ok (.getfield 165, 3) := by decide +kernel
theorem dX10_classOf_9 : decode cX10_classOf 9 = .ok (.if_icmp .ge 27, 3) := by decide +kernel
theorem dX10_classOf_12 : decode cX10_classOf 12 = .ok (.iload_n 2, 1) := by decide +kernel
theorem dX10_classOf_13 : decode cX10_classOf 13 = .ok (.aload_n 0, 1) := by decide +kernel
theorem dX10_classOf_14 : decode cX10_classOf 14 = .ok (.getfield 28, 3) := by decide +kernel
theorem dX10_classOf_17 : decode cX10_classOf 17 = .ok (.iload_n 3, 1) := by decide +kernel
theorem dX10_classOf_18 : decode cX10_classOf 18 = .ok (.iaload, 1) := by decide +kernel
theorem dX10_classOf_19 : decode cX10_classOf 19 = .ok (.iload_n 1, 1) := by decide +kernel
theorem dX10_classOf_20 : decode cX10_classOf 20 = .ok (.if_icmp .gt 7, 3) := by decide +kernel
theorem dX10_classOf_23 : decode cX10_classOf 23 = .ok (.iconst 1, 1) := by decide +kernel
theorem dX10_classOf_24 : decode cX10_classOf 24 = .ok (.goto 4, 3) := by decide +kernel
theorem dX10_classOf_27 : decode cX10_classOf 27 = .ok (.iconst 0, 1) := by decide +kernel
theorem dX10_classOf_28 : decode cX10_classOf 28 = .ok (.iadd, 1) := by decide +kernel
theorem dX10_classOf_29 : decode cX10_classOf 29 = .ok (.istore_n 2, 1) := by decide +kernel
theorem dX10_classOf_30 : decode cX10_classOf 30 = .ok (.iinc 3 1, 3) := by decide +kernel
theorem dX10_classOf_33 : decode cX10_classOf 33 = .ok (.goto (-29), 3) := by decide +kernel
theorem dX10_classOf_36 : decode cX10_classOf 36 = .ok (.iload_n 2, 1) := by decide +kernel
theorem dX10_classOf_37 : decode cX10_classOf 37 = .ok (.ireturn, 1) := by decide +kernel
theorem dX10_classes_0 : decode cX10_classes 0 = .ok (.aload_n 0, 1) := by decide +kernel
theorem dX10_classes_1 : decode cX10_classes 1 = .ok (.iload_n 1, 1) := by decide +kernel
theorem dX10_classes_2 : decode cX10_classes 2 = .ok (.invokevirtual 215, 3) := by decide +kernel
theorem dX10_classes_5 : decode cX10_classes 5 = .ok (.ifCond .eq 11, 3) := by decide +kernel
theorem dX10_classes_8 : decode cX10_classes 8 = .ok (.aload_n 0, 1) := by decide +kernel
theorem dX10_classes_9 : decode cX10_classes 9 = .ok (.iload_n 2, 1) := by decide +kernel
theorem dX10_classes_10 : decode cX10_classes 10 = .ok (.invokevirtual 191, 3) := by decide +kernel
theorem dX10_classes_13 : decode cX10_classes 13 = .ok (.ifCond .ne 6, 3) := by decide +kernel
theorem dX10_classes_16 : decode cX10_classes 16 = .ok (.bipush (-101), 2) := by decide +kernel
theorem dX10_classes_18 : decode cX10_classes 18 = .ok (.ireturn, 1) := by decide +kernel
theorem dX10_classes_19 : decode cX10_classes 19 = .ok (.iload_n 3, 1) := by decide +kernel
theorem dX10_classes_20 : decode cX10_classes 20 = .ok (.invokestatic 288, 3) := by decide +kernel
theorem dX10_classes_23 : decode cX10_classes 23 = .ok (.ifCond .ne 6, 3) := by decide +kernel
theorem dX10_classes_26 : decode cX10_classes 26 = .ok (.bipush (-102), 2) := by decide +kernel
theorem dX10_classes_28 : decode cX10_classes 28 = .ok (.ireturn, 1) := by decide +kernel
theorem dX10_classes_29 : decode cX10_classes 29 = .ok (.aload_n 0, 1) := by decide +kernel
theorem dX10_classes_30 : decode cX10_classes 30 = .ok (.getfield 165, 3) := by decide +kernel
theorem dX10_classes_33 : decode cX10_classes 33 = .ok (.ifCond .ne 8, 3) := by decide +kernel
theorem dX10_classes_36 : decode cX10_classes 36 = .ok (.bipush (-103), 2) := by decide +kernel
theorem dX10_classes_38 : decode cX10_classes 38 = .ok (.goto 22, 3) := by decide +kernel
theorem dX10_classes_41 : decode cX10_classes 41 = .ok (.iload_n 3, 1) := by decide +kernel
theorem dX10_classes_42 : decode cX10_classes 42 = .ok (.ifCond .ne 12, 3) := by decide +kernel
theorem dX10_classes_45 : decode cX10_classes 45 = .ok (.aload_n 0, 1) := by decide +kernel
theorem dX10_classes_46 : decode cX10_classes 46 = .ok (.iload_n 1, 1) := by decide +kernel
theorem dX10_classes_47 : decode cX10_classes 47 = .ok (.iload_n 2, 1) := by decide +kernel
theorem dX10_classes_48 : decode cX10_classes 48 = .ok (.invokevirtual 312, 3) := by decide +kernel
theorem dX10_classes_51 : decode cX10_classes 51 = .ok (.goto 9, 3) := by decide +kernel
theorem dX10_classes_54 : decode cX10_classes 54 = .ok (.aload_n 0, 1) := by decide +kernel
theorem dX10_classes_55 : decode cX10_classes 55 = .ok (.iload_n 1, 1) := by decide +kernel
theorem dX10_classes_56 : decode cX10_classes 56 = .ok (.iload_n 2, 1) := by decide +kernel
theorem dX10_classes_57 : decode cX10_classes 57 = .ok (.invokevirtual 315, 3) := by decide +kernel
theorem dX10_classes_60 : decode cX10_classes 60 = .ok (.ireturn, 1) := by decide +kernel
theorem dX10_colour_0 : decode cX10_colour 0 = .ok (.aload_n 0, 1) := by decide +kernel
theorem dX10_colour_1 : decode cX10_colour 1 = .ok (.iload_n 1, 1) := by decide +kernel
theorem dX10_colour_2 : decode cX10_colour 2 = .ok (.invokevirtual 191, 3) := by decide +kernel
theorem dX10_colour_5 : decode cX10_colour 5 = .ok (.ifCond .ne 6, 3) := by decide +kernel
theorem dX10_colour_8 : decode cX10_colour 8 = .ok (.bipush (-101), 2) := by decide +kernel
theorem dX10_colour_10 : decode cX10_colour 10 = .ok (.ireturn, 1) := by decide +kernel
theorem dX10_colour_11 : decode cX10_colour 11 = .ok (.iload_n 2, 1) := by decide +kernel
theorem dX10_colour_12 : decode cX10_colour 12 = .ok (.i2l, 1) := by decide +kernel
theorem dX10_colour_13 : decode cX10_colour 13 = .ok (.lconst 0, 1) := by decide +kernel
theorem dX10_colour_14 : decode cX10_colour 14 = .ok (.ldc2_w 194, 3) := by decide +kernel
theorem dX10_colour_17 : decode cX10_colour 17 = .ok (.invokestatic 98, 3) := by decide +kernel
theorem dX10_colour_20 : decode cX10_colour 20 = .ok (.ifCond .eq 28, 3) := by decide +kernel
theorem dX10_colour_23 : decode cX10_colour 23 = .ok (.iload_n 3, 1) := by decide +kernel
theorem dX10_colour_24 : decode cX10_colour 24 = .ok (.i2l, 1) := by decide +kernel
theorem dX10_colour_25 : decode cX10_colour 25 = .ok (.lconst 0, 1) := by decide +kernel
theorem dX10_colour_26 : decode cX10_colour 26 = .ok (.ldc2_w 154, 3) := by decide +kernel
theorem dX10_colour_29 : decode cX10_colour 29 = .ok (.invokestatic 98, 3) := by decide +kernel
theorem dX10_colour_32 : decode cX10_colour 32 = .ok (.ifCond .eq 16, 3) := by decide +kernel
theorem dX10_colour_35 : decode cX10_colour 35 = .ok (.iload 4, 2) := by decide +kernel
theorem dX10_colour_37 : decode cX10_colour 37 = .ok (.i2l, 1) := by decide +kernel
theorem dX10_colour_38 : decode cX10_colour 38 = .ok (.lconst 0, 1) := by decide +kernel
theorem dX10_colour_39 : decode cX10_colour 39 = .ok (.ldc2_w 196, 3) := by decide +kernel
theorem dX10_colour_42 : decode cX10_colour 42 = .ok (.invokestatic 98, 3) := by decide +kernel
theorem dX10_colour_45 : decode cX10_colour 45 = .ok (.ifCond .ne 6, 3) := by decide +kernel
theorem dX10_colour_48 : decode cX10_colour 48 = .ok (.bipush (-102), 2) := by decide +kernel
theorem dX10_colour_50 : decode cX10_colour 50 = .ok (.ireturn, 1) := by decide +kernel
theorem dX10_colour_51 : decode cX10_colour 51 = .ok (.bipush 12, 2) := by decide +kernel
theorem dX10_colour_53 : decode cX10_colour 53 = .ok (.iload_n 1, 1) := by decide +kernel
theorem dX10_colour_54 : decode cX10_colour 54 = .ok (.imul, 1) := by decide +kernel
theorem dX10_colour_55 : decode cX10_colour 55 = .ok (.iconst 3, 1) := by decide +kernel
theorem dX10_colour_56 : decode cX10_colour 56 = .ok (.iload_n 2, 1) := by decide +kernel
theorem dX10_colour_57 : decode cX10_colour 57 = .ok (.imul, 1) := by decide +kernel
theorem dX10_colour_58 : decode cX10_colour 58 = .ok (.iadd, 1) := by decide +kernel
theorem dX10_colour_59 : decode cX10_colour 59 = .ok (.iload_n 3, 1) := by decide +kernel
theorem dX10_colour_60 : decode cX10_colour 60 = .ok (.iadd, 1) := by decide +kernel
theorem dX10_colour_61 : decode cX10_colour 61 = .ok (.istore 5, 2) := by decide +kernel
theorem dX10_colour_63 : decode cX10_colour 63 = .ok (.aload_n 0, 1) := by decide +kernel
theorem dX10_colour_64 : decode cX10_colour 64 = .ok (.getfield 40, 3) := by decide +kernel
theorem dX10_colour_67 : decode cX10_colour 67 = .ok (.iload 5, 2) := by decide +kernel
theorem dX10_colour_69 : decode cX10_colour 69 = .ok (.iaload, 1) := by decide +kernel
theorem dX10_colour_70 : decode cX10_colour 70 = .ok (.istore 6, 2) := by decide +kernel
theorem dX10_colour_72 : decode cX10_colour 72 = .ok (.aload_n 0, 1) := by decide +kernel
theorem dX10_colour_73 : decode cX10_colour 73 = .ok (.getfield 40, 3) := by decide +kernel
theorem dX10_colour_76 : decode cX10_colour 76 = .ok (.iload 5, 2) := by decide +kernel
theorem dX10_colour_78 : decode cX10_colour 78 = .ok (.iload 4, 2) := by decide +kernel
theorem dX10_colour_80 : decode cX10_colour 80 = .ok (.iastore, 1) := by decide +kernel
theorem dX10_colour_81 : decode cX10_colour 81 = .ok (.iload 6, 2) := by decide +kernel
theorem dX10_colour_83 : decode cX10_colour 83 = .ok (.ireturn, 1) := by decide +kernel
theorem dX10_colourOf_0 : decode cX10_colourOf 0 = .ok (.iload_n 0, 1) := by decide +kernel
theorem dX10_colourOf_1 : decode cX10_colourOf 1 = .ok (.bipush 114, 2) := by decide +kernel
theorem dX10_colourOf_3 : decode cX10_colourOf 3 = .ok (.if_icmp .ne 7, 3) := by decide +kernel
theorem dX10_colourOf_6 : decode cX10_colourOf 6 = .ok (.iconst 0, 1) := by decide +kernel
theorem dX10_colourOf_7 : decode cX10_colourOf 7 = .ok (.goto 24, 3) := by decide +kernel
theorem dX10_colourOf_10 : decode cX10_colourOf 10 = .ok (.iload_n 0, 1) := by decide +kernel
theorem dX10_colourOf_11 : decode cX10_colourOf 11 = .ok (.bipush 103, 2) := by decide +kernel
theorem dX10_colourOf_13 : decode cX10_colourOf 13 = .ok (.if_icmp .ne 7, 3) := by decide +kernel
theorem dX10_colourOf_16 : decode cX10_colourOf 16 = .ok (.iconst 1, 1) := by decide +kernel
theorem dX10_colourOf_17 : decode cX10_colourOf 17 = .ok (.goto 14, 3) := by decide +kernel
theorem dX10_colourOf_20 : decode cX10_colourOf 20 = .ok (.iload_n 0, 1) := by decide +kernel
theorem dX10_colourOf_21 : decode cX10_colourOf 21 = .ok (.bipush 98, 2) := by decide +kernel
theorem dX10_colourOf_23 : decode cX10_colourOf 23 = .ok (.if_icmp .ne 7, 3) := by decide +kernel
theorem dX10_colourOf_26 : decode cX10_colourOf 26 = .ok (.iconst 2, 1) := by decide +kernel
theorem dX10_colourOf_27 : decode cX10_colourOf 27 = .ok (.goto 4, 3) := by decide +kernel
theorem dX10_colourOf_30 : decode cX10_colourOf 30 = .ok (.iconst (-1), 1) := by decide +kernel
theorem dX10_colourOf_31 : decode cX10_colourOf 31 = .ok (.ireturn, 1) := by decide +kernel
theorem dX10_common_0 : decode cX10_common 0 = .ok (.lload_n 0, 1) := by decide +kernel
theorem dX10_common_1 : decode cX10_common 1 = .ok (.lstore 4, 2) := by decide +kernel
theorem dX10_common_3 : decode cX10_common 3 = .ok (.lload_n 2, 1) := by decide +kernel
theorem dX10_common_4 : decode cX10_common 4 = .ok (.lstore 6, 2) := by decide +kernel
theorem dX10_common_6 : decode cX10_common 6 = .ok (.lload 4, 2) := by decide +kernel
theorem dX10_common_8 : decode cX10_common 8 = .ok (.lconst 0, 1) := by decide +kernel
theorem dX10_common_9 : decode cX10_common 9 = .ok (.lcmp, 1) := by decide +kernel
theorem dX10_common_10 : decode cX10_common 10 = .ok (.ifCond .eq 21, 3) := by decide +kernel
theorem dX10_common_13 : decode cX10_common 13 = .ok (.lload 6, 2) := by decide +kernel
theorem dX10_common_15 : decode cX10_common 15 = .ok (.lload 4, 2) := by decide +kernel
theorem dX10_common_17 : decode cX10_common 17 = .ok (.lrem, 1) := by decide +kernel
theorem dX10_common_18 : decode cX10_common 18 = .ok (.lstore 8, 2) := by decide +kernel
theorem dX10_common_20 : decode cX10_common 20 = .ok (.lload 4, 2) := by decide +kernel
theorem dX10_common_22 : decode cX10_common 22 = .ok (.lstore 6, 2) := by decide +kernel
theorem dX10_common_24 : decode cX10_common 24 = .ok (.lload 8, 2) := by decide +kernel
theorem dX10_common_26 : decode cX10_common 26 = .ok (.lstore 4, 2) := by decide +kernel
theorem dX10_common_28 : decode cX10_common 28 = .ok (.goto (-22), 3) := by decide +kernel
theorem dX10_common_31 : decode cX10_common 31 = .ok (.lload 6, 2) := by decide +kernel
theorem dX10_common_33 : decode cX10_common 33 = .ok (.lreturn, 1) := by decide +kernel
theorem dX10_count_0 : decode cX10_count 0 = .ok (.aload_n 0, 1) := by decide +kernel
theorem dX10_count_1 : decode cX10_count 1 = .ok (.iload_n 1, 1) := by decide +kernel
theorem dX10_count_2 : decode cX10_count 2 = .ok (.invokevirtual 343, 3) := by decide +kernel
theorem dX10_count_5 : decode cX10_count 5 = .ok (.ireturn, 1) := by decide +kernel
theorem dX10_countOf_0 : decode cX10_countOf 0 = .ok (.iload_n 1, 1) := by decide +kernel
theorem dX10_countOf_1 : decode cX10_countOf 1 = .ok (.tableswitch 96 0 8 #[51, 56, 61, 66, 71, 76, 81, 86, 91], 51) := by decide +kernel
theorem dX10_countOf_52 : decode cX10_countOf 52 = .ok (.aload_n 0, 1) := by decide +kernel
theorem dX10_countOf_53 : decode cX10_countOf 53 = .ok (.getfield 159, 3) := by decide +kernel
theorem dX10_countOf_56 : decode cX10_countOf 56 = .ok (.ireturn, 1) := by decide +kernel
theorem dX10_countOf_57 : decode cX10_countOf 57 = .ok (.aload_n 0, 1) := by decide +kernel
theorem dX10_countOf_58 : decode cX10_countOf 58 = .ok (.getfield 175, 3) := by decide +kernel
theorem dX10_countOf_61 : decode cX10_countOf 61 = .ok (.ireturn, 1) := by decide +kernel
theorem dX10_countOf_62 : decode cX10_countOf 62 = .ok (.aload_n 0, 1) := by decide +kernel
theorem dX10_countOf_63 : decode cX10_countOf 63 = .ok (.getfield 178, 3) := by decide +kernel
theorem dX10_countOf_66 : decode cX10_countOf 66 = .ok (.ireturn, 1) := by decide +kernel
theorem dX10_countOf_67 : decode cX10_countOf 67 = .ok (.aload_n 0, 1) := by decide +kernel
theorem dX10_countOf_68 : decode cX10_countOf 68 = .ok (.getfield 162, 3) := by decide +kernel
theorem dX10_countOf_71 : decode cX10_countOf 71 = .ok (.ireturn, 1) := by decide +kernel
theorem dX10_countOf_72 : decode cX10_countOf 72 = .ok (.aload_n 0, 1) := by decide +kernel
theorem dX10_countOf_73 : decode cX10_countOf 73 = .ok (.getfield 221, 3) := by decide +kernel
theorem dX10_countOf_76 : decode cX10_countOf 76 = .ok (.ireturn, 1) := by decide +kernel
theorem dX10_countOf_77 : decode cX10_countOf 77 = .ok (.aload_n 0, 1) := by decide +kernel
theorem dX10_countOf_78 : decode cX10_countOf 78 = .ok (.getfield 165, 3) := by decide +kernel
theorem dX10_countOf_81 : decode cX10_countOf 81 = .ok (.ireturn, 1) := by decide +kernel
theorem dX10_countOf_82 : decode cX10_countOf 82 = .ok (.aload_n 0, 1) := by decide +kernel
theorem dX10_countOf_83 : decode cX10_countOf 83 = .ok (.getfield 306, 3) := by decide +kernel
theorem dX10_countOf_86 : decode cX10_countOf 86 = .ok (.ireturn, 1) := by decide +kernel
theorem dX10_countOf_87 : decode cX10_countOf 87 = .ok (.aload_n 0, 1) := by decide +kernel
theorem dX10_countOf_88 : decode cX10_countOf 88 = .ok (.getfield 104, 3) := by decide +kernel
theorem dX10_countOf_91 : decode cX10_countOf 91 = .ok (.ireturn, 1) := by decide +kernel
theorem dX10_countOf_92 : decode cX10_countOf 92 = .ok (.aload_n 0, 1) := by decide +kernel
theorem dX10_countOf_93 : decode cX10_countOf 93 = .ok (.getfield 302, 3) := by decide +kernel
theorem dX10_countOf_96 : decode cX10_countOf 96 = .ok (.ireturn, 1) := by decide +kernel
theorem dX10_countOf_97 : decode cX10_countOf 97 = .ok (.bipush (-102), 2) := by decide +kernel
theorem dX10_countOf_99 : decode cX10_countOf 99 = .ok (.ireturn, 1) := by decide +kernel
theorem dX10_dates_0 : decode cX10_dates 0 = .ok (.aload_n 0, 1) := by decide +kernel
theorem dX10_dates_1 : decode cX10_dates 1 = .ok (.iload_n 1, 1) := by decide +kernel
theorem dX10_dates_2 : decode cX10_dates 2 = .ok (.invokevirtual 215, 3) := by decide +kernel
theorem dX10_dates_5 : decode cX10_dates 5 = .ok (.ifCond .eq 11, 3) := by decide +kernel
theorem dX10_dates_8 : decode cX10_dates 8 = .ok (.aload_n 0, 1) := by decide +kernel
theorem dX10_dates_9 : decode cX10_dates 9 = .ok (.iload_n 2, 1) := by decide +kernel
theorem dX10_dates_10 : decode cX10_dates 10 = .ok (.invokevirtual 191, 3) := by decide +kernel
theorem dX10_dates_13 : decode cX10_dates 13 = .ok (.ifCond .ne 6, 3) := by decide +kernel
theorem dX10_dates_16 : decode cX10_dates 16 = .ok (.bipush (-101), 2) := by decide +kernel
theorem dX10_dates_18 : decode cX10_dates 18 = .ok (.ireturn, 1) := by decide +kernel
theorem dX10_dates_19 : decode cX10_dates 19 = .ok (.iload_n 3, 1) := by decide +kernel
theorem dX10_dates_20 : decode cX10_dates 20 = .ok (.i2l, 1) := by decide +kernel
theorem dX10_dates_21 : decode cX10_dates 21 = .ok (.lconst 0, 1) := by decide +kernel
theorem dX10_dates_22 : decode cX10_dates 22 = .ok (.ldc2_w 154, 3) := by decide +kernel
theorem dX10_dates_25 : decode cX10_dates 25 = .ok (.invokestatic 98, 3) := by decide +kernel
theorem dX10_dates_28 : decode cX10_dates 28 = .ok (.ifCond .ne 6, 3) := by decide +kernel
theorem dX10_dates_31 : decode cX10_dates 31 = .ok (.bipush (-102), 2) := by decide +kernel
theorem dX10_dates_33 : decode cX10_dates 33 = .ok (.ireturn, 1) := by decide +kernel
theorem dX10_dates_34 : decode cX10_dates 34 = .ok (.aload_n 0, 1) := by decide +kernel
theorem dX10_dates_35 : decode cX10_dates 35 = .ok (.getfield 165, 3) := by decide +kernel
theorem dX10_dates_38 : decode cX10_dates 38 = .ok (.ifCond .ne 6, 3) := by decide +kernel
theorem dX10_dates_41 : decode cX10_dates 41 = .ok (.bipush (-103), 2) := by decide +kernel
theorem dX10_dates_43 : decode cX10_dates 43 = .ok (.ireturn, 1) := by decide +kernel
theorem dX10_dates_44 : decode cX10_dates 44 = .ok (.aload_n 0, 1) := by decide +kernel
theorem dX10_dates_45 : decode cX10_dates 45 = .ok (.iload_n 1, 1) := by decide +kernel
theorem dX10_dates_46 : decode cX10_dates 46 = .ok (.iload_n 2, 1) := by decide +kernel
theorem dX10_dates_47 : decode cX10_dates 47 = .ok (.invokevirtual 330, 3) := by decide +kernel
theorem dX10_dates_50 : decode cX10_dates 50 = .ok (.iload_n 3, 1) := by decide +kernel
theorem dX10_dates_51 : decode cX10_dates 51 = .ok (.ifCond .ne 10, 3) := by decide +kernel
theorem dX10_dates_54 : decode cX10_dates 54 = .ok (.aload_n 0, 1) := by decide +kernel
theorem dX10_dates_55 : decode cX10_dates 55 = .ok (.getfield 318, 3) := by decide +kernel
theorem dX10_dates_58 : decode cX10_dates 58 = .ok (.goto 19, 3) := by decide +kernel
theorem dX10_dates_61 : decode cX10_dates 61 = .ok (.iload_n 3, 1) := by decide +kernel
theorem dX10_dates_62 : decode cX10_dates 62 = .ok (.iconst 1, 1) := by decide +kernel
theorem dX10_dates_63 : decode cX10_dates 63 = .ok (.if_icmp .ne 10, 3) := by decide +kernel
theorem dX10_dates_66 : decode cX10_dates 66 = .ok (.aload_n 0, 1) := by decide +kernel
theorem dX10_dates_67 : decode cX10_dates 67 = .ok (.getfield 321, 3) := by decide +kernel
theorem dX10_dates_70 : decode cX10_dates 70 = .ok (.goto 7, 3) := by decide +kernel
theorem dX10_dates_73 : decode cX10_dates 73 = .ok (.aload_n 0, 1) := by decide +kernel
theorem dX10_dates_74 : decode cX10_dates 74 = .ok (.getfield 324, 3) := by decide +kernel
theorem dX10_dates_77 : decode cX10_dates 77 = .ok (.ireturn, 1) := by decide +kernel
theorem dX10_digest_0 : decode cX10_digest 0 = .ok (.aload_n 0, 1) := by decide +kernel
theorem dX10_digest_1 : decode cX10_digest 1 = .ok (.ldc2_w 355, 3) := by decide +kernel
theorem dX10_digest_4 : decode cX10_digest 4 = .ok (.putfield 348, 3) := by decide +kernel
theorem dX10_digest_7 : decode cX10_digest 7 = .ok (.iconst 0, 1) := by decide +kernel
theorem dX10_digest_8 : decode cX10_digest 8 = .ok (.istore_n 1, 1) := by decide +kernel
theorem dX10_digest_9 : decode cX10_digest 9 = .ok (.iload_n 1, 1) := by decide +kernel
theorem dX10_digest_10 : decode cX10_digest 10 = .ok (.aload_n 0, 1) := by decide +kernel
theorem dX10_digest_11 : decode cX10_digest 11 = .ok (.getfield 175, 3) := by decide +kernel
theorem dX10_digest_14 : decode cX10_digest 14 = .ok (.if_icmp .ge 31, 3) := by decide +kernel
theorem dX10_digest_17 : decode cX10_digest 17 = .ok (.aload_n 0, 1) := by decide +kernel
theorem dX10_digest_18 : decode cX10_digest 18 = .ok (.aload_n 0, 1) := by decide +kernel
theorem dX10_digest_19 : decode cX10_digest 19 = .ok (.getfield 31, 3) := by decide +kernel
theorem dX10_digest_22 : decode cX10_digest 22 = .ok (.iload_n 1, 1) := by decide +kernel
theorem dX10_digest_23 : decode cX10_digest 23 = .ok (.iaload, 1) := by decide +kernel
theorem dX10_digest_24 : decode cX10_digest 24 = .ok (.i2l, 1) := by decide +kernel
theorem dX10_digest_25 : decode cX10_digest 25 = .ok (.invokevirtual 351, 3) := by decide +kernel
theorem dX10_digest_28 : decode cX10_digest 28 = .ok (.aload_n 0, 1) := by decide +kernel
theorem dX10_digest_29 : decode cX10_digest 29 = .ok (.aload_n 0, 1) := by decide +kernel
theorem dX10_digest_30 : decode cX10_digest 30 = .ok (.getfield 34, 3) := by decide +kernel
theorem dX10_digest_33 : decode cX10_digest 33 = .ok (.iload_n 1, 1) := by decide +kernel
theorem dX10_digest_34 : decode cX10_digest 34 = .ok (.iaload, 1) := by decide +kernel
theorem dX10_digest_35 : decode cX10_digest 35 = .ok (.i2l, 1) := by decide +kernel
theorem dX10_digest_36 : decode cX10_digest 36 = .ok (.invokevirtual 351, 3) := by decide +kernel
theorem dX10_digest_39 : decode cX10_digest 39 = .ok (.iinc 1 1, 3) := by decide +kernel
theorem dX10_digest_42 : decode cX10_digest 42 = .ok (.goto (-33), 3) := by decide +kernel
theorem dX10_digest_45 : decode cX10_digest 45 = .ok (.iconst 0, 1) := by decide +kernel
theorem dX10_digest_46 : decode cX10_digest 46 = .ok (.istore_n 1, 1) := by decide +kernel
theorem dX10_digest_47 : decode cX10_digest 47 = .ok (.iload_n 1, 1) := by decide +kernel
theorem dX10_digest_48 : decode cX10_digest 48 = .ok (.aload_n 0, 1) := by decide +kernel
theorem dX10_digest_49 : decode cX10_digest 49 = .ok (.getfield 178, 3) := by decide +kernel
theorem dX10_digest_52 : decode cX10_digest 52 = .ok (.if_icmp .ge 14, 3) := by decide +kernel
theorem dX10_digest_55 : decode cX10_digest 55 = .ok (.aload_n 0, 1) := by decide +kernel
theorem dX10_digest_56 : decode cX10_digest 56 = .ok (.iload_n 1, 1) := by decide +kernel
theorem dX10_digest_57 : decode cX10_digest 57 = .ok (.invokevirtual 357, 3) := by decide +kernel
theorem dX10_digest_60 : decode cX10_digest 60 = .ok (.iinc 1 1, 3) := by decide +kernel
theorem dX10_digest_63 : decode cX10_digest 63 = .ok (.goto (-16), 3) := by decide +kernel
theorem dX10_digest_66 : decode cX10_digest 66 = .ok (.iconst 0, 1) := by decide +kernel
theorem dX10_digest_67 : decode cX10_digest 67 = .ok (.istore_n 1, 1) := by decide +kernel
theorem dX10_digest_68 : decode cX10_digest 68 = .ok (.iload_n 1, 1) := by decide +kernel
theorem dX10_digest_69 : decode cX10_digest 69 = .ok (.aload_n 0, 1) := by decide +kernel
theorem dX10_digest_70 : decode cX10_digest 70 = .ok (.getfield 221, 3) := by decide +kernel
theorem dX10_digest_73 : decode cX10_digest 73 = .ok (.if_icmp .ge 20, 3) := by decide +kernel
theorem dX10_digest_76 : decode cX10_digest 76 = .ok (.aload_n 0, 1) := by decide +kernel
theorem dX10_digest_77 : decode cX10_digest 77 = .ok (.aload_n 0, 1) := by decide +kernel
theorem dX10_digest_78 : decode cX10_digest 78 = .ok (.getfield 43, 3) := by decide +kernel
theorem dX10_digest_81 : decode cX10_digest 81 = .ok (.iload_n 1, 1) := by decide +kernel
theorem dX10_digest_82 : decode cX10_digest 82 = .ok (.iaload, 1) := by decide +kernel
theorem dX10_digest_83 : decode cX10_digest 83 = .ok (.i2l, 1) := by decide +kernel
theorem dX10_digest_84 : decode cX10_digest 84 = .ok (.invokevirtual 351, 3) := by decide +kernel
theorem dX10_digest_87 : decode cX10_digest 87 = .ok (.iinc 1 1, 3) := by decide +kernel
theorem dX10_digest_90 : decode cX10_digest 90 = .ok (.goto (-22), 3) := by decide +kernel
theorem dX10_digest_93 : decode cX10_digest 93 = .ok (.iconst 0, 1) := by decide +kernel
theorem dX10_digest_94 : decode cX10_digest 94 = .ok (.istore_n 1, 1) := by decide +kernel
theorem dX10_digest_95 : decode cX10_digest 95 = .ok (.iload_n 1, 1) := by decide +kernel
theorem dX10_digest_96 : decode cX10_digest 96 = .ok (.aload_n 0, 1) := by decide +kernel
theorem dX10_digest_97 : decode cX10_digest 97 = .ok (.getfield 162, 3) := by decide +kernel
theorem dX10_digest_100 : decode cX10_digest 100 = .ok (.if_icmp .ge 14, 3) := by decide +kernel
theorem dX10_digest_103 : decode cX10_digest 103 = .ok (.aload_n 0, 1) := by decide +kernel
theorem dX10_digest_104 : decode cX10_digest 104 = .ok (.iload_n 1, 1) := by decide +kernel
theorem dX10_digest_105 : decode cX10_digest 105 = .ok (.invokevirtual 361, 3) := by decide +kernel
theorem dX10_digest_108 : decode cX10_digest 108 = .ok (.iinc 1 1, 3) := by decide +kernel
theorem dX10_digest_111 : decode cX10_digest 111 = .ok (.goto (-16), 3) := by decide +kernel
theorem dX10_digest_114 : decode cX10_digest 114 = .ok (.iconst 0, 1) := by decide +kernel
theorem dX10_digest_115 : decode cX10_digest 115 = .ok (.istore_n 1, 1) := by decide +kernel
theorem dX10_digest_116 : decode cX10_digest 116 = .ok (.iload_n 1, 1) := by decide +kernel
theorem dX10_digest_117 : decode cX10_digest 117 = .ok (.aload_n 0, 1) := by decide +kernel
theorem dX10_digest_118 : decode cX10_digest 118 = .ok (.getfield 162, 3) := by decide +kernel
theorem dX10_digest_121 : decode cX10_digest 121 = .ok (.if_icmp .ge 26, 3) := by decide +kernel
theorem dX10_digest_124 : decode cX10_digest 124 = .ok (.aload_n 0, 1) := by decide +kernel
theorem dX10_digest_125 : decode cX10_digest 125 = .ok (.getfield 165, 3) := by decide +kernel
theorem dX10_digest_128 : decode cX10_digest 128 = .ok (.ifCond .le 19, 3) := by decide +kernel
theorem dX10_digest_131 : decode cX10_digest 131 = .ok (.aload_n 0, 1) := by decide +kernel
theorem dX10_digest_132 : decode cX10_digest 132 = .ok (.aload_n 0, 1) := by decide +kernel
theorem dX10_digest_133 : decode cX10_digest 133 = .ok (.iload_n 1, 1) := by decide +kernel
theorem dX10_digest_134 : decode cX10_digest 134 = .ok (.invokevirtual 334, 3) := by decide +kernel
theorem dX10_digest_137 : decode cX10_digest 137 = .ok (.i2l, 1) := by decide +kernel
theorem dX10_digest_138 : decode cX10_digest 138 = .ok (.invokevirtual 351, 3) := by decide +kernel
theorem dX10_digest_141 : decode cX10_digest 141 = .ok (.iinc 1 1, 3) := by decide +kernel
theorem dX10_digest_144 : decode cX10_digest 144 = .ok (.goto (-28), 3) := by decide +kernel
theorem dX10_digest_147 : decode cX10_digest 147 = .ok (.iconst 0, 1) := by decide +kernel
theorem dX10_digest_148 : decode cX10_digest 148 = .ok (.istore_n 1, 1) := by decide +kernel
theorem dX10_digest_149 : decode cX10_digest 149 = .ok (.iload_n 1, 1) := by decide +kernel
theorem dX10_digest_150 : decode cX10_digest 150 = .ok (.sipush 401, 3) := by decide +kernel
theorem dX10_digest_153 : decode cX10_digest 153 = .ok (.if_icmp .ge 47, 3) := by decide +kernel
theorem dX10_digest_156 : decode cX10_digest 156 = .ok (.aload_n 0, 1) := by decide +kernel
theorem dX10_digest_157 : decode cX10_digest 157 = .ok (.getfield 69, 3) := by decide +kernel
theorem dX10_digest_160 : decode cX10_digest 160 = .ok (.iload_n 1, 1) := by decide +kernel
theorem dX10_digest_161 : decode cX10_digest 161 = .ok (.iaload, 1) := by decide +kernel
theorem dX10_digest_162 : decode cX10_digest 162 = .ok (.iconst (-1), 1) := by decide +kernel
theorem dX10_digest_163 : decode cX10_digest 163 = .ok (.if_icmp .eq 31, 3) := by decide +kernel
theorem dX10_digest_166 : decode cX10_digest 166 = .ok (.aload_n 0, 1) := by decide +kernel
theorem dX10_digest_167 : decode cX10_digest 167 = .ok (.iload_n 1, 1) := by decide +kernel
theorem dX10_digest_168 : decode cX10_digest 168 = .ok (.i2l, 1) := by decide +kernel
theorem dX10_digest_169 : decode cX10_digest 169 = .ok (.invokevirtual 351, 3) := by decide +kernel
theorem dX10_digest_172 : decode cX10_digest 172 = .ok (.aload_n 0, 1) := by decide +kernel
theorem dX10_digest_173 : decode cX10_digest 173 = .ok (.aload_n 0, 1) := by decide +kernel
theorem dX10_digest_174 : decode cX10_digest 174 = .ok (.getfield 69, 3) := by decide +kernel
theorem dX10_digest_177 : decode cX10_digest 177 = .ok (.iload_n 1, 1) := by decide +kernel
theorem dX10_digest_178 : decode cX10_digest 178 = .ok (.iaload, 1) := by decide +kernel
theorem dX10_digest_179 : decode cX10_digest 179 = .ok (.i2l, 1) := by decide +kernel
theorem dX10_digest_180 : decode cX10_digest 180 = .ok (.invokevirtual 351, 3) := by decide +kernel
theorem dX10_digest_183 : decode cX10_digest 183 = .ok (.aload_n 0, 1) := by decide +kernel
theorem dX10_digest_184 : decode cX10_digest 184 = .ok (.aload_n 0, 1) := by decide +kernel
theorem dX10_digest_185 : decode cX10_digest 185 = .ok (.getfield 72, 3) := by decide +kernel
theorem dX10_digest_188 : decode cX10_digest 188 = .ok (.iload_n 1, 1) := by decide +kernel
theorem dX10_digest_189 : decode cX10_digest 189 = .ok (.iaload, 1) := by decide +kernel
theorem dX10_digest_190 : decode cX10_digest 190 = .ok (.i2l, 1) := by decide +kernel
theorem dX10_digest_191 : decode cX10_digest 191 = .ok (.invokevirtual 351, 3) := by decide +kernel
theorem dX10_digest_194 : decode cX10_digest 194 = .ok (.iinc 1 1, 3) := by decide +kernel
theorem dX10_digest_197 : decode cX10_digest 197 = .ok (.goto (-48), 3) := by decide +kernel
theorem dX10_digest_200 : decode cX10_digest 200 = .ok (.iconst 0, 1) := by decide +kernel
theorem dX10_digest_201 : decode cX10_digest 201 = .ok (.istore_n 1, 1) := by decide +kernel
theorem dX10_digest_202 : decode cX10_digest 202 = .ok (.iload_n 1, 1) := by decide +kernel
theorem dX10_digest_203 : decode cX10_digest 203 = .ok (.aload_n 0, 1) := by decide +kernel
theorem dX10_digest_204 : decode cX10_digest 204 = .ok (.getfield 104, 3) := by decide +kernel
theorem dX10_digest_207 : decode cX10_digest 207 = .ok (.if_icmp .ge 20, 3) := by decide +kernel
theorem dX10_digest_210 : decode cX10_digest 210 = .ok (.aload_n 0, 1) := by decide +kernel
theorem dX10_digest_211 : decode cX10_digest 211 = .ok (.aload_n 0, 1) := by decide +kernel
theorem dX10_digest_212 : decode cX10_digest 212 = .ok (.getfield 7, 3) := by decide +kernel
theorem dX10_digest_215 : decode cX10_digest 215 = .ok (.iload_n 1, 1) := by decide +kernel
theorem dX10_digest_216 : decode cX10_digest 216 = .ok (.iaload, 1) := by decide +kernel
theorem dX10_digest_217 : decode cX10_digest 217 = .ok (.i2l, 1) := by decide +kernel
theorem dX10_digest_218 : decode cX10_digest 218 = .ok (.invokevirtual 351, 3) := by decide +kernel
theorem dX10_digest_221 : decode cX10_digest 221 = .ok (.iinc 1 1, 3) := by decide +kernel
theorem dX10_digest_224 : decode cX10_digest 224 = .ok (.goto (-22), 3) := by decide +kernel
theorem dX10_digest_227 : decode cX10_digest 227 = .ok (.iconst 0, 1) := by decide +kernel
theorem dX10_digest_228 : decode cX10_digest 228 = .ok (.istore_n 1, 1) := by decide +kernel
theorem dX10_digest_229 : decode cX10_digest 229 = .ok (.iload_n 1, 1) := by decide +kernel
theorem dX10_digest_230 : decode cX10_digest 230 = .ok (.bipush 9, 2) := by decide +kernel
theorem dX10_digest_232 : decode cX10_digest 232 = .ok (.if_icmp .ge 19, 3) := by decide +kernel
theorem dX10_digest_235 : decode cX10_digest 235 = .ok (.aload_n 0, 1) := by decide +kernel
theorem dX10_digest_236 : decode cX10_digest 236 = .ok (.aload_n 0, 1) := by decide +kernel
theorem dX10_digest_237 : decode cX10_digest 237 = .ok (.iload_n 1, 1) := by decide +kernel
theorem dX10_digest_238 : decode cX10_digest 238 = .ok (.invokevirtual 343, 3) := by decide +kernel
theorem dX10_digest_241 : decode cX10_digest 241 = .ok (.i2l, 1) := by decide +kernel
theorem dX10_digest_242 : decode cX10_digest 242 = .ok (.invokevirtual 351, 3) := by decide +kernel
theorem dX10_digest_245 : decode cX10_digest 245 = .ok (.iinc 1 1, 3) := by decide +kernel
theorem dX10_digest_248 : decode cX10_digest 248 = .ok (.goto (-19), 3) := by decide +kernel
theorem dX10_digest_251 : decode cX10_digest 251 = .ok (.aload_n 0, 1) := by decide +kernel
theorem dX10_digest_252 : decode cX10_digest 252 = .ok (.getfield 348, 3) := by decide +kernel
theorem dX10_digest_255 : decode cX10_digest 255 = .ok (.lreturn, 1) := by decide +kernel
theorem dX10_draw_0 : decode cX10_draw 0 = .ok (.aload_n 0, 1) := by decide +kernel
theorem dX10_draw_1 : decode cX10_draw 1 = .ok (.ldc2_w 241, 3) := by decide +kernel
theorem dX10_draw_4 : decode cX10_draw 4 = .ok (.aload_n 0, 1) := by decide +kernel
theorem dX10_draw_5 : decode cX10_draw 5 = .ok (.getfield 243, 3) := by decide +kernel
theorem dX10_draw_8 : decode cX10_draw 8 = .ok (.i2l, 1) := by decide +kernel
theorem dX10_draw_9 : decode cX10_draw 9 = .ok (.lmul, 1) := by decide +kernel
theorem dX10_draw_10 : decode cX10_draw 10 = .ok (.ldc2_w 246, 3) := by decide +kernel
theorem dX10_draw_13 : decode cX10_draw 13 = .ok (.ladd, 1) := by decide +kernel
theorem dX10_draw_14 : decode cX10_draw 14 = .ok (.ldc2_w 248, 3) := by decide +kernel
theorem dX10_draw_17 : decode cX10_draw 17 = .ok (.land, 1) := by decide +kernel
theorem dX10_draw_18 : decode cX10_draw 18 = .ok (.l2i, 1) := by decide +kernel
theorem dX10_draw_19 : decode cX10_draw 19 = .ok (.putfield 243, 3) := by decide +kernel
theorem dX10_draw_22 : decode cX10_draw 22 = .ok (.aload_n 0, 1) := by decide +kernel
theorem dX10_draw_23 : decode cX10_draw 23 = .ok (.getfield 243, 3) := by decide +kernel
theorem dX10_draw_26 : decode cX10_draw 26 = .ok (.ldc 250, 2) := by decide +kernel
theorem dX10_draw_28 : decode cX10_draw 28 = .ok (.idiv, 1) := by decide +kernel
theorem dX10_draw_29 : decode cX10_draw 29 = .ok (.iload_n 1, 1) := by decide +kernel
theorem dX10_draw_30 : decode cX10_draw 30 = .ok (.irem, 1) := by decide +kernel
theorem dX10_draw_31 : decode cX10_draw 31 = .ok (.ireturn, 1) := by decide +kernel
theorem dX10_fault_0 : decode cX10_fault 0 = .ok (.iload_n 1, 1) := by decide +kernel
theorem dX10_fault_1 : decode cX10_fault 1 = .ok (.i2l, 1) := by decide +kernel
theorem dX10_fault_2 : decode cX10_fault 2 = .ok (.lconst 0, 1) := by decide +kernel
theorem dX10_fault_3 : decode cX10_fault 3 = .ok (.ldc2_w 154, 3) := by decide +kernel
theorem dX10_fault_6 : decode cX10_fault 6 = .ok (.invokestatic 98, 3) := by decide +kernel
theorem dX10_fault_9 : decode cX10_fault 9 = .ok (.ifCond .eq 11, 3) := by decide +kernel
theorem dX10_fault_12 : decode cX10_fault 12 = .ok (.aload_n 0, 1) := by decide +kernel
theorem dX10_fault_13 : decode cX10_fault 13 = .ok (.iload_n 1, 1) := by decide +kernel
theorem dX10_fault_14 : decode cX10_fault 14 = .ok (.invokevirtual 156, 3) := by decide +kernel
theorem dX10_fault_17 : decode cX10_fault 17 = .ok (.goto 5, 3) := by decide +kernel
theorem dX10_fault_20 : decode cX10_fault 20 = .ok (.bipush (-102), 2) := by decide +kernel
theorem dX10_fault_22 : decode cX10_fault 22 = .ok (.ireturn, 1) := by decide +kernel
theorem dX10_faultOf_0 : decode cX10_faultOf 0 = .ok (.aload_n 0, 1) := by decide +kernel
theorem dX10_faultOf_1 : decode cX10_faultOf 1 = .ok (.iconst 0, 1) := by decide +kernel
theorem dX10_faultOf_2 : decode cX10_faultOf 2 = .ok (.putfield 107, 3) := by decide +kernel
theorem dX10_faultOf_5 : decode cX10_faultOf 5 = .ok (.aload_n 0, 1) := by decide +kernel
theorem dX10_faultOf_6 : decode cX10_faultOf 6 = .ok (.iconst 0, 1) := by decide +kernel
theorem dX10_faultOf_7 : decode cX10_faultOf 7 = .ok (.putfield 138, 3) := by decide +kernel
theorem dX10_faultOf_10 : decode cX10_faultOf 10 = .ok (.aload_n 0, 1) := by decide +kernel
theorem dX10_faultOf_11 : decode cX10_faultOf 11 = .ok (.iconst 0, 1) := by decide +kernel
theorem dX10_faultOf_12 : decode cX10_faultOf 12 = .ok (.putfield 133, 3) := by decide +kernel
theorem dX10_faultOf_15 : decode cX10_faultOf 15 = .ok (.aload_n 0, 1) := by decide +kernel
theorem dX10_faultOf_16 : decode cX10_faultOf 16 = .ok (.iconst 0, 1) := by decide +kernel
theorem dX10_faultOf_17 : decode cX10_faultOf 17 = .ok (.putfield 127, 3) := by decide +kernel
theorem dX10_faultOf_20 : decode cX10_faultOf 20 = .ok (.iconst 0, 1) := by decide +kernel
theorem dX10_faultOf_21 : decode cX10_faultOf 21 = .ok (.istore_n 2, 1) := by decide +kernel
theorem dX10_faultOf_22 : decode cX10_faultOf 22 = .ok (.iload_n 2, 1) := by decide +kernel
theorem dX10_faultOf_23 : decode cX10_faultOf 23 = .ok (.iconst 3, 1) := by decide +kernel
theorem dX10_faultOf_24 : decode cX10_faultOf 24 = .ok (.if_icmp .ge 16, 3) := by decide +kernel
theorem dX10_faultOf_27 : decode cX10_faultOf 27 = .ok (.aload_n 0, 1) := by decide +kernel
theorem dX10_faultOf_28 : decode cX10_faultOf 28 = .ok (.getfield 13, 3) := by decide +kernel
theorem dX10_faultOf_31 : decode cX10_faultOf 31 = .ok (.iload_n 2, 1) := by decide +kernel
theorem dX10_faultOf_32 : decode cX10_faultOf 32 = .ok (.iconst 0, 1) := by decide +kernel
theorem dX10_faultOf_33 : decode cX10_faultOf 33 = .ok (.iastore, 1) := by decide +kernel
theorem dX10_faultOf_34 : decode cX10_faultOf 34 = .ok (.iinc 2 1, 3) := by decide +kernel
theorem dX10_faultOf_37 : decode cX10_faultOf 37 = .ok (.goto (-15), 3) := by decide +kernel
theorem dX10_faultOf_40 : decode cX10_faultOf 40 = .ok (.iconst 0, 1) := by decide +kernel
theorem dX10_faultOf_41 : decode cX10_faultOf 41 = .ok (.istore_n 2, 1) := by decide +kernel
theorem dX10_faultOf_42 : decode cX10_faultOf 42 = .ok (.iload_n 2, 1) := by decide +kernel
theorem dX10_faultOf_43 : decode cX10_faultOf 43 = .ok (.bipush 24, 2) := by decide +kernel
theorem dX10_faultOf_45 : decode cX10_faultOf 45 = .ok (.if_icmp .ge 16, 3) := by decide +kernel
theorem dX10_faultOf_48 : decode cX10_faultOf 48 = .ok (.aload_n 0, 1) := by decide +kernel
theorem dX10_faultOf_49 : decode cX10_faultOf 49 = .ok (.getfield 16, 3) := by decide +kernel
theorem dX10_faultOf_52 : decode cX10_faultOf 52 = .ok (.iload_n 2, 1) := by decide +kernel
theorem dX10_faultOf_53 : decode cX10_faultOf 53 = .ok (.iconst 0, 1) := by decide +kernel
theorem dX10_faultOf_54 : decode cX10_faultOf 54 = .ok (.iastore, 1) := by decide +kernel
theorem dX10_faultOf_55 : decode cX10_faultOf 55 = .ok (.iinc 2 1, 3) := by decide +kernel
theorem dX10_faultOf_58 : decode cX10_faultOf 58 = .ok (.goto (-16), 3) := by decide +kernel
theorem dX10_faultOf_61 : decode cX10_faultOf 61 = .ok (.iconst 0, 1) := by decide +kernel
theorem dX10_faultOf_62 : decode cX10_faultOf 62 = .ok (.istore_n 2, 1) := by decide +kernel
theorem dX10_faultOf_63 : decode cX10_faultOf 63 = .ok (.iload_n 2, 1) := by decide +kernel
theorem dX10_faultOf_64 : decode cX10_faultOf 64 = .ok (.aload_n 0, 1) := by decide +kernel
theorem dX10_faultOf_65 : decode cX10_faultOf 65 = .ok (.getfield 104, 3) := by decide +kernel
theorem dX10_faultOf_68 : decode cX10_faultOf 68 = .ok (.if_icmp .ge 63, 3) := by decide +kernel
theorem dX10_faultOf_71 : decode cX10_faultOf 71 = .ok (.iload_n 1, 1) := by decide +kernel
theorem dX10_faultOf_72 : decode cX10_faultOf 72 = .ok (.ifCond .ne 19, 3) := by decide +kernel
theorem dX10_faultOf_75 : decode cX10_faultOf 75 = .ok (.aload_n 0, 1) := by decide +kernel
theorem dX10_faultOf_76 : decode cX10_faultOf 76 = .ok (.aload_n 0, 1) := by decide +kernel
theorem dX10_faultOf_77 : decode cX10_faultOf 77 = .ok (.getfield 7, 3) := by decide +kernel
theorem dX10_faultOf_80 : decode cX10_faultOf 80 = .ok (.iload_n 2, 1) := by decide +kernel
theorem dX10_faultOf_81 : decode cX10_faultOf 81 = .ok (.iaload, 1) := by decide +kernel
theorem dX10_faultOf_82 : decode cX10_faultOf 82 = .ok (.invokevirtual 145, 3) := by decide +kernel
theorem dX10_faultOf_85 : decode cX10_faultOf 85 = .ok (.ifCond .eq 46, 3) := by decide +kernel
theorem dX10_faultOf_88 : decode cX10_faultOf 88 = .ok (.goto 37, 3) := by decide +kernel
theorem dX10_faultOf_91 : decode cX10_faultOf 91 = .ok (.iload_n 1, 1) := by decide +kernel
theorem dX10_faultOf_92 : decode cX10_faultOf 92 = .ok (.iconst 1, 1) := by decide +kernel
theorem dX10_faultOf_93 : decode cX10_faultOf 93 = .ok (.if_icmp .ne 19, 3) := by decide +kernel
theorem dX10_faultOf_96 : decode cX10_faultOf 96 = .ok (.aload_n 0, 1) := by decide +kernel
theorem dX10_faultOf_97 : decode cX10_faultOf 97 = .ok (.aload_n 0, 1) := by decide +kernel
theorem dX10_faultOf_98 : decode cX10_faultOf 98 = .ok (.getfield 7, 3) := by decide +kernel
theorem dX10_faultOf_101 : decode cX10_faultOf 101 = .ok (.iload_n 2, 1) := by decide +kernel
theorem dX10_faultOf_102 : decode cX10_faultOf 102 = .ok (.iaload, 1) := by decide +kernel
theorem dX10_faultOf_103 : decode cX10_faultOf 103 = .ok (.invokevirtual 148, 3) := by decide +kernel
theorem dX10_faultOf_106 : decode cX10_faultOf 106 = .ok (.ifCond .eq 25, 3) := by decide +kernel
theorem dX10_faultOf_109 : decode cX10_faultOf 109 = .ok (.goto 16, 3) := by decide +kernel
theorem dX10_faultOf_112 : decode cX10_faultOf 112 = .ok (.aload_n 0, 1) := by decide +kernel
theorem dX10_faultOf_113 : decode cX10_faultOf 113 = .ok (.aload_n 0, 1) := by decide +kernel
theorem dX10_faultOf_114 : decode cX10_faultOf 114 = .ok (.getfield 7, 3) := by decide +kernel
theorem dX10_faultOf_117 : decode cX10_faultOf 117 = .ok (.iload_n 2, 1) := by decide +kernel
theorem dX10_faultOf_118 : decode cX10_faultOf 118 = .ok (.iaload, 1) := by decide +kernel
theorem dX10_faultOf_119 : decode cX10_faultOf 119 = .ok (.invokevirtual 151, 3) := by decide +kernel
theorem dX10_faultOf_122 : decode cX10_faultOf 122 = .ok (.ifCond .eq 9, 3) := by decide +kernel
theorem dX10_faultOf_125 : decode cX10_faultOf 125 = .ok (.iinc 2 1, 3) := by decide +kernel
theorem dX10_faultOf_128 : decode cX10_faultOf 128 = .ok (.goto (-65), 3) := by decide +kernel
theorem dX10_faultOf_131 : decode cX10_faultOf 131 = .ok (.iload_n 2, 1) := by decide +kernel
theorem dX10_faultOf_132 : decode cX10_faultOf 132 = .ok (.ireturn, 1) := by decide +kernel
