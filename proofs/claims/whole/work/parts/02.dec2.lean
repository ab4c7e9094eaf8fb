theorem dX12_agree_64 : decode cX12_agree 64 = .ok (.iadd, 1) := by decide +kernel
theorem dX12_agree_65 : decode cX12_agree 65 = .ok (.iconst 2, 1) := by decide +kernel
theorem dX12_agree_66 : decode cX12_agree 66 = .ok (.iadd, 1) := by decide +kernel
theorem dX12_agree_67 : decode cX12_agree 67 = .ok (.dup2, 1) := by decide +kernel
theorem dX12_agree_68 : decode cX12_agree 68 = .ok (.iaload, 1) := by decide +kernel
theorem dX12_agree_69 : decode cX12_agree 69 = .ok (.iconst 1, 1) := by decide +kernel
theorem dX12_agree_70 : decode cX12_agree 70 = .ok (.iload_n 2, 1) := by decide +kernel
theorem dX12_agree_71 : decode cX12_agree 71 = .ok (.ishl, 1) := by decide +kernel
theorem dX12_agree_72 : decode cX12_agree 72 = .ok (.ixor, 1) := by decide +kernel
theorem dX12_agree_73 : decode cX12_agree 73 = .ok (.iastore, 1) := by decide +kernel
theorem dX12_agree_74 : decode cX12_agree 74 = .ok (.aload_n 0, 1) := by decide +kernel
theorem dX12_agree_75 : decode cX12_agree 75 = .ok (.getfield 9, 3) := by decide +kernel
theorem dX12_agree_78 : decode cX12_agree 78 = .ok (.bipush 8, 2) := by decide +kernel
theorem dX12_agree_80 : decode cX12_agree 80 = .ok (.iconst 3, 1) := by decide +kernel
theorem dX12_agree_81 : decode cX12_agree 81 = .ok (.iload_n 2, 1) := by decide +kernel
theorem dX12_agree_82 : decode cX12_agree 82 = .ok (.imul, 1) := by decide +kernel
theorem dX12_agree_83 : decode cX12_agree 83 = .ok (.iadd, 1) := by decide +kernel
theorem dX12_agree_84 : decode cX12_agree 84 = .ok (.iconst 2, 1) := by decide +kernel
theorem dX12_agree_85 : decode cX12_agree 85 = .ok (.iadd, 1) := by decide +kernel
theorem dX12_agree_86 : decode cX12_agree 86 = .ok (.dup2, 1) := by decide +kernel
theorem dX12_agree_87 : decode cX12_agree 87 = .ok (.iaload, 1) := by decide +kernel
theorem dX12_agree_88 : decode cX12_agree 88 = .ok (.iconst 1, 1) := by decide +kernel
theorem dX12_agree_89 : decode cX12_agree 89 = .ok (.iload_n 1, 1) := by decide +kernel
theorem dX12_agree_90 : decode cX12_agree 90 = .ok (.ishl, 1) := by decide +kernel
theorem dX12_agree_91 : decode cX12_agree 91 = .ok (.ixor, 1) := by decide +kernel
theorem dX12_agree_92 : decode cX12_agree 92 = .ok (.iastore, 1) := by decide +kernel
theorem dX12_agree_93 : decode cX12_agree 93 = .ok (.iload 4, 2) := by decide +kernel
theorem dX12_agree_95 : decode cX12_agree 95 = .ok (.ireturn, 1) := by decide +kernel
theorem dX12_patience_0 : decode cX12_patience 0 = .ok (.iload_n 1, 1) := by decide +kernel
theorem dX12_patience_1 : decode cX12_patience 1 = .ok (.iconst 0, 1) := by decide +kernel
theorem dX12_patience_2 : decode cX12_patience 2 = .ok (.bipush 24, 2) := by decide +kernel
theorem dX12_patience_4 : decode cX12_patience 4 = .ok (.invokestatic 73, 3) := by decide +kernel
theorem dX12_patience_7 : decode cX12_patience 7 = .ok (.ifCond .eq 13, 3) := by decide +kernel
theorem dX12_patience_10 : decode cX12_patience 10 = .ok (.aload_n 0, 1) := by decide +kernel
theorem dX12_patience_11 : decode cX12_patience 11 = .ok (.bipush 6, 2) := by decide +kernel
theorem dX12_patience_13 : decode cX12_patience 13 = .ok (.iload_n 1, 1) := by decide +kernel
theorem dX12_patience_14 : decode cX12_patience 14 = .ok (.invokevirtual 112, 3) := by decide +kernel
theorem dX12_patience_17 : decode cX12_patience 17 = .ok (.goto 5, 3) := by decide +kernel
theorem dX12_patience_20 : decode cX12_patience 20 = .ok (.ldc 78, 2) := by decide +kernel
theorem dX12_patience_22 : decode cX12_patience 22 = .ok (.ireturn, 1) := by decide +kernel
theorem dX12_deal_0 : decode cX12_deal 0 = .ok (.iload_n 1, 1) := by decide +kernel
theorem dX12_deal_1 : decode cX12_deal 1 = .ok (.iconst 1, 1) := by decide +kernel
theorem dX12_deal_2 : decode cX12_deal 2 = .ok (.bipush 10, 2) := by decide +kernel
theorem dX12_deal_4 : decode cX12_deal 4 = .ok (.invokestatic 73, 3) := by decide +kernel
theorem dX12_deal_7 : decode cX12_deal 7 = .ok (.ifCond .ne 6, 3) := by decide +kernel
theorem dX12_deal_10 : decode cX12_deal 10 = .ok (.ldc 78, 2) := by decide +kernel
theorem dX12_deal_12 : decode cX12_deal 12 = .ok (.ireturn, 1) := by decide +kernel
theorem dX12_deal_13 : decode cX12_deal 13 = .ok (.iconst 0, 1) := by decide +kernel
theorem dX12_deal_14 : decode cX12_deal 14 = .ok (.istore_n 2, 1) := by decide +kernel
theorem dX12_deal_15 : decode cX12_deal 15 = .ok (.iload_n 2, 1) := by decide +kernel
theorem dX12_deal_16 : decode cX12_deal 16 = .ok (.iload_n 1, 1) := by decide +kernel
theorem dX12_deal_17 : decode cX12_deal 17 = .ok (.if_icmp .ge 42, 3) := by decide +kernel
theorem dX12_deal_20 : decode cX12_deal 20 = .ok (.aload_n 0, 1) := by decide +kernel
theorem dX12_deal_21 : decode cX12_deal 21 = .ok (.getfield 9, 3) := by decide +kernel
theorem dX12_deal_24 : decode cX12_deal 24 = .ok (.iconst 1, 1) := by decide +kernel
theorem dX12_deal_25 : decode cX12_deal 25 = .ok (.iaload, 1) := by decide +kernel
theorem dX12_deal_26 : decode cX12_deal 26 = .ok (.bipush 10, 2) := by decide +kernel
theorem dX12_deal_28 : decode cX12_deal 28 = .ok (.if_icmp .ge 31, 3) := by decide +kernel
theorem dX12_deal_31 : decode cX12_deal 31 = .ok (.aload_n 0, 1) := by decide +kernel
theorem dX12_deal_32 : decode cX12_deal 32 = .ok (.invokevirtual 119, 3) := by decide +kernel
theorem dX12_deal_35 : decode cX12_deal 35 = .ok (.bipush 101, 2) := by decide +kernel
theorem dX12_deal_37 : decode cX12_deal 37 = .ok (.irem, 1) := by decide +kernel
theorem dX12_deal_38 : decode cX12_deal 38 = .ok (.istore_n 3, 1) := by decide +kernel
theorem dX12_deal_39 : decode cX12_deal 39 = .ok (.aload_n 0, 1) := by decide +kernel
theorem dX12_deal_40 : decode cX12_deal 40 = .ok (.iload_n 3, 1) := by decide +kernel
theorem dX12_deal_41 : decode cX12_deal 41 = .ok (.aload_n 0, 1) := by decide +kernel
theorem dX12_deal_42 : decode cX12_deal 42 = .ok (.invokevirtual 119, 3) := by decide +kernel
theorem dX12_deal_45 : decode cX12_deal 45 = .ok (.bipush 101, 2) := by decide +kernel
theorem dX12_deal_47 : decode cX12_deal 47 = .ok (.irem, 1) := by decide +kernel
theorem dX12_deal_48 : decode cX12_deal 48 = .ok (.invokevirtual 80, 3) := by decide +kernel
theorem dX12_deal_51 : decode cX12_deal 51 = .ok (.istore 4, 2) := by decide +kernel
theorem dX12_deal_53 : decode cX12_deal 53 = .ok (.iinc 2 1, 3) := by decide +kernel
theorem dX12_deal_56 : decode cX12_deal 56 = .ok (.goto (-41), 3) := by decide +kernel
theorem dX12_deal_59 : decode cX12_deal 59 = .ok (.iload_n 2, 1) := by decide +kernel
theorem dX12_deal_60 : decode cX12_deal 60 = .ok (.ireturn, 1) := by decide +kernel
theorem dX12_door_0 : decode cX12_door 0 = .ok (.aload_n 0, 1) := by decide +kernel
theorem dX12_door_1 : decode cX12_door 1 = .ok (.iload_n 1, 1) := by decide +kernel
theorem dX12_door_2 : decode cX12_door 2 = .ok (.invokevirtual 105, 3) := by decide +kernel
theorem dX12_door_5 : decode cX12_door 5 = .ok (.ifCond .eq 14, 3) := by decide +kernel
theorem dX12_door_8 : decode cX12_door 8 = .ok (.iload_n 2, 1) := by decide +kernel
theorem dX12_door_9 : decode cX12_door 9 = .ok (.iconst 0, 1) := by decide +kernel
theorem dX12_door_10 : decode cX12_door 10 = .ok (.sipush 999, 3) := by decide +kernel
theorem dX12_door_13 : decode cX12_door 13 = .ok (.invokestatic 73, 3) := by decide +kernel
theorem dX12_door_16 : decode cX12_door 16 = .ok (.ifCond .ne 6, 3) := by decide +kernel
theorem dX12_door_19 : decode cX12_door 19 = .ok (.ldc 78, 2) := by decide +kernel
theorem dX12_door_21 : decode cX12_door 21 = .ok (.ireturn, 1) := by decide +kernel
theorem dX12_door_22 : decode cX12_door 22 = .ok (.aload_n 0, 1) := by decide +kernel
theorem dX12_door_23 : decode cX12_door 23 = .ok (.getfield 9, 3) := by decide +kernel
theorem dX12_door_26 : decode cX12_door 26 = .ok (.iconst 2, 1) := by decide +kernel
theorem dX12_door_27 : decode cX12_door 27 = .ok (.iaload, 1) := by decide +kernel
theorem dX12_door_28 : decode cX12_door 28 = .ok (.bipush 12, 2) := by decide +kernel
theorem dX12_door_30 : decode cX12_door 30 = .ok (.if_icmp .ne 6, 3) := by decide +kernel
theorem dX12_door_33 : decode cX12_door 33 = .ok (.ldc 79, 2) := by decide +kernel
theorem dX12_door_35 : decode cX12_door 35 = .ok (.ireturn, 1) := by decide +kernel
theorem dX12_door_36 : decode cX12_door 36 = .ok (.bipush 38, 2) := by decide +kernel
theorem dX12_door_38 : decode cX12_door 38 = .ok (.iconst 5, 1) := by decide +kernel
theorem dX12_door_39 : decode cX12_door 39 = .ok (.aload_n 0, 1) := by decide +kernel
theorem dX12_door_40 : decode cX12_door 40 = .ok (.getfield 9, 3) := by decide +kernel
theorem dX12_door_43 : decode cX12_door 43 = .ok (.iconst 2, 1) := by decide +kernel
theorem dX12_door_44 : decode cX12_door 44 = .ok (.iaload, 1) := by decide +kernel
theorem dX12_door_45 : decode cX12_door 45 = .ok (.imul, 1) := by decide +kernel
theorem dX12_door_46 : decode cX12_door 46 = .ok (.iadd, 1) := by decide +kernel
theorem dX12_door_47 : decode cX12_door 47 = .ok (.istore_n 3, 1) := by decide +kernel
theorem dX12_door_48 : decode cX12_door 48 = .ok (.aload_n 0, 1) := by decide +kernel
theorem dX12_door_49 : decode cX12_door 49 = .ok (.getfield 9, 3) := by decide +kernel
theorem dX12_door_52 : decode cX12_door 52 = .ok (.iload_n 3, 1) := by decide +kernel
theorem dX12_door_53 : decode cX12_door 53 = .ok (.iload_n 1, 1) := by decide +kernel
theorem dX12_door_54 : decode cX12_door 54 = .ok (.iastore, 1) := by decide +kernel
theorem dX12_door_55 : decode cX12_door 55 = .ok (.aload_n 0, 1) := by decide +kernel
theorem dX12_door_56 : decode cX12_door 56 = .ok (.getfield 9, 3) := by decide +kernel
theorem dX12_door_59 : decode cX12_door 59 = .ok (.iload_n 3, 1) := by decide +kernel
theorem dX12_door_60 : decode cX12_door 60 = .ok (.iconst 1, 1) := by decide +kernel
theorem dX12_door_61 : decode cX12_door 61 = .ok (.iadd, 1) := by decide +kernel
theorem dX12_door_62 : decode cX12_door 62 = .ok (.iload_n 2, 1) := by decide +kernel
theorem dX12_door_63 : decode cX12_door 63 = .ok (.iastore, 1) := by decide +kernel
theorem dX12_door_64 : decode cX12_door 64 = .ok (.aload_n 0, 1) := by decide +kernel
theorem dX12_door_65 : decode cX12_door 65 = .ok (.getfield 9, 3) := by decide +kernel
theorem dX12_door_68 : decode cX12_door 68 = .ok (.iload_n 3, 1) := by decide +kernel
theorem dX12_door_69 : decode cX12_door 69 = .ok (.iconst 2, 1) := by decide +kernel
theorem dX12_door_70 : decode cX12_door 70 = .ok (.iadd, 1) := by decide +kernel
theorem dX12_door_71 : decode cX12_door 71 = .ok (.iconst 1, 1) := by decide +kernel
theorem dX12_door_72 : decode cX12_door 72 = .ok (.iastore, 1) := by decide +kernel
theorem dX12_door_73 : decode cX12_door 73 = .ok (.aload_n 0, 1) := by decide +kernel
theorem dX12_door_74 : decode cX12_door 74 = .ok (.getfield 9, 3) := by decide +kernel
theorem dX12_door_77 : decode cX12_door 77 = .ok (.iload_n 3, 1) := by decide +kernel
theorem dX12_door_78 : decode cX12_door 78 = .ok (.iconst 3, 1) := by decide +kernel
theorem dX12_door_79 : decode cX12_door 79 = .ok (.iadd, 1) := by decide +kernel
theorem dX12_door_80 : decode cX12_door 80 = .ok (.iconst (-1), 1) := by decide +kernel
theorem dX12_door_81 : decode cX12_door 81 = .ok (.iastore, 1) := by decide +kernel
theorem dX12_door_82 : decode cX12_door 82 = .ok (.aload_n 0, 1) := by decide +kernel
theorem dX12_door_83 : decode cX12_door 83 = .ok (.getfield 9, 3) := by decide +kernel
theorem dX12_door_86 : decode cX12_door 86 = .ok (.iload_n 3, 1) := by decide +kernel
theorem dX12_door_87 : decode cX12_door 87 = .ok (.iconst 3, 1) := by decide +kernel
theorem dX12_door_88 : decode cX12_door 88 = .ok (.iadd, 1) := by decide +kernel
theorem dX12_door_89 : decode cX12_door 89 = .ok (.iconst 1, 1) := by decide +kernel
theorem dX12_door_90 : decode cX12_door 90 = .ok (.iadd, 1) := by decide +kernel
theorem dX12_door_91 : decode cX12_door 91 = .ok (.iconst (-1), 1) := by decide +kernel
theorem dX12_door_92 : decode cX12_door 92 = .ok (.iastore, 1) := by decide +kernel
theorem dX12_door_93 : decode cX12_door 93 = .ok (.aload_n 0, 1) := by decide +kernel
theorem dX12_door_94 : decode cX12_door 94 = .ok (.getfield 9, 3) := by decide +kernel
theorem dX12_door_97 : decode cX12_door 97 = .ok (.iconst 2, 1) := by decide +kernel
theorem dX12_door_98 : decode cX12_door 98 = .ok (.dup2, 1) := by decide +kernel
theorem dX12_door_99 : decode cX12_door 99 = .ok (.iaload, 1) := by decide +kernel
theorem dX12_door_100 : decode cX12_door 100 = .ok (.iconst 1, 1) := by decide +kernel
theorem dX12_door_101 : decode cX12_door 101 = .ok (.iadd, 1) := by decide +kernel
theorem dX12_door_102 : decode cX12_door 102 = .ok (.iastore, 1) := by decide +kernel
theorem dX12_door_103 : decode cX12_door 103 = .ok (.aload_n 0, 1) := by decide +kernel
theorem dX12_door_104 : decode cX12_door 104 = .ok (.getfield 9, 3) := by decide +kernel
theorem dX12_door_107 : decode cX12_door 107 = .ok (.iconst 2, 1) := by decide +kernel
theorem dX12_door_108 : decode cX12_door 108 = .ok (.iaload, 1) := by decide +kernel
theorem dX12_door_109 : decode cX12_door 109 = .ok (.iconst 1, 1) := by decide +kernel
theorem dX12_door_110 : decode cX12_door 110 = .ok (.isub, 1) := by decide +kernel
theorem dX12_door_111 : decode cX12_door 111 = .ok (.ireturn, 1) := by decide +kernel
theorem dX12_isLawfulWith_0 : decode cX12_isLawfulWith 0 = .ok (.aload_n 0, 1) := by decide +kernel
theorem dX12_isLawfulWith_1 : decode cX12_isLawfulWith 1 = .ok (.iload_n 1, 1) := by decide +kernel
theorem dX12_isLawfulWith_2 : decode cX12_isLawfulWith 2 = .ok (.iconst 0, 1) := by decide +kernel
theorem dX12_isLawfulWith_3 : decode cX12_isLawfulWith 3 = .ok (.invokevirtual 84, 3) := by decide +kernel
theorem dX12_isLawfulWith_6 : decode cX12_isLawfulWith 6 = .ok (.istore 4, 2) := by decide +kernel
theorem dX12_isLawfulWith_8 : decode cX12_isLawfulWith 8 = .ok (.iload_n 2, 1) := by decide +kernel
theorem dX12_isLawfulWith_9 : decode cX12_isLawfulWith 9 = .ok (.ifCond .lt 33, 3) := by decide +kernel
theorem dX12_isLawfulWith_12 : decode cX12_isLawfulWith 12 = .ok (.iload_n 3, 1) := by decide +kernel
theorem dX12_isLawfulWith_13 : decode cX12_isLawfulWith 13 = .ok (.ifCond .lt 29, 3) := by decide +kernel
theorem dX12_isLawfulWith_16 : decode cX12_isLawfulWith 16 = .ok (.iload_n 2, 1) := by decide +kernel
theorem dX12_isLawfulWith_17 : decode cX12_isLawfulWith 17 = .ok (.iload_n 3, 1) := by decide +kernel
theorem dX12_isLawfulWith_18 : decode cX12_isLawfulWith 18 = .ok (.if_icmp .eq 24, 3) := by decide +kernel
theorem dX12_isLawfulWith_21 : decode cX12_isLawfulWith 21 = .ok (.iload_n 2, 1) := by decide +kernel
theorem dX12_isLawfulWith_22 : decode cX12_isLawfulWith 22 = .ok (.iload 4, 2) := by decide +kernel
theorem dX12_isLawfulWith_24 : decode cX12_isLawfulWith 24 = .ok (.if_icmp .eq 18, 3) := by decide +kernel
theorem dX12_isLawfulWith_27 : decode cX12_isLawfulWith 27 = .ok (.iload_n 3, 1) := by decide +kernel
theorem dX12_isLawfulWith_28 : decode cX12_isLawfulWith 28 = .ok (.iload 4, 2) := by decide +kernel
theorem dX12_isLawfulWith_30 : decode cX12_isLawfulWith 30 = .ok (.if_icmp .eq 12, 3) := by decide +kernel
theorem dX12_isLawfulWith_33 : decode cX12_isLawfulWith 33 = .ok (.aload_n 0, 1) := by decide +kernel
theorem dX12_isLawfulWith_34 : decode cX12_isLawfulWith 34 = .ok (.iload_n 2, 1) := by decide +kernel
theorem dX12_isLawfulWith_35 : decode cX12_isLawfulWith 35 = .ok (.iload_n 3, 1) := by decide +kernel
theorem dX12_isLawfulWith_36 : decode cX12_isLawfulWith 36 = .ok (.invokevirtual 115, 3) := by decide +kernel
theorem dX12_isLawfulWith_39 : decode cX12_isLawfulWith 39 = .ok (.ifCond .eq 5, 3) := by decide +kernel
theorem dX12_isLawfulWith_42 : decode cX12_isLawfulWith 42 = .ok (.iconst 0, 1) := by decide +kernel
theorem dX12_isLawfulWith_43 : decode cX12_isLawfulWith 43 = .ok (.ireturn, 1) := by decide +kernel
theorem dX12_isLawfulWith_44 : decode cX12_isLawfulWith 44 = .ok (.aload_n 0, 1) := by decide +kernel
theorem dX12_isLawfulWith_45 : decode cX12_isLawfulWith 45 = .ok (.iconst 2, 1) := by decide +kernel
theorem dX12_isLawfulWith_46 : decode cX12_isLawfulWith 46 = .ok (.invokevirtual 91, 3) := by decide +kernel
theorem dX12_isLawfulWith_49 : decode cX12_isLawfulWith 49 = .ok (.istore 5, 2) := by decide +kernel
theorem dX12_isLawfulWith_51 : decode cX12_isLawfulWith 51 = .ok (.aload_n 0, 1) := by decide +kernel
theorem dX12_isLawfulWith_52 : decode cX12_isLawfulWith 52 = .ok (.getfield 42, 3) := by decide +kernel
theorem dX12_isLawfulWith_55 : decode cX12_isLawfulWith 55 = .ok (.iconst 0, 1) := by decide +kernel
theorem dX12_isLawfulWith_56 : decode cX12_isLawfulWith 56 = .ok (.iload_n 2, 1) := by decide +kernel
theorem dX12_isLawfulWith_57 : decode cX12_isLawfulWith 57 = .ok (.iload_n 3, 1) := by decide +kernel
theorem dX12_isLawfulWith_58 : decode cX12_isLawfulWith 58 = .ok (.if_icmp .ge 7, 3) := by decide +kernel
theorem dX12_isLawfulWith_61 : decode cX12_isLawfulWith 61 = .ok (.iload_n 2, 1) := by decide +kernel
theorem dX12_isLawfulWith_62 : decode cX12_isLawfulWith 62 = .ok (.goto 4, 3) := by decide +kernel
theorem dX12_isLawfulWith_65 : decode cX12_isLawfulWith 65 = .ok (.iload_n 3, 1) := by decide +kernel
theorem dX12_isLawfulWith_66 : decode cX12_isLawfulWith 66 = .ok (.iastore, 1) := by decide +kernel
theorem dX12_isLawfulWith_67 : decode cX12_isLawfulWith 67 = .ok (.aload_n 0, 1) := by decide +kernel
theorem dX12_isLawfulWith_68 : decode cX12_isLawfulWith 68 = .ok (.getfield 42, 3) := by decide +kernel
theorem dX12_isLawfulWith_71 : decode cX12_isLawfulWith 71 = .ok (.iconst 1, 1) := by decide +kernel
theorem dX12_isLawfulWith_72 : decode cX12_isLawfulWith 72 = .ok (.iload_n 2, 1) := by decide +kernel
theorem dX12_isLawfulWith_73 : decode cX12_isLawfulWith 73 = .ok (.iload_n 3, 1) := by decide +kernel
theorem dX12_isLawfulWith_74 : decode cX12_isLawfulWith 74 = .ok (.if_icmp .ge 7, 3) := by decide +kernel
theorem dX12_isLawfulWith_77 : decode cX12_isLawfulWith 77 = .ok (.iload_n 3, 1) := by decide +kernel
theorem dX12_isLawfulWith_78 : decode cX12_isLawfulWith 78 = .ok (.goto 4, 3) := by decide +kernel
theorem dX12_isLawfulWith_81 : decode cX12_isLawfulWith 81 = .ok (.iload_n 2, 1) := by decide +kernel
theorem dX12_isLawfulWith_82 : decode cX12_isLawfulWith 82 = .ok (.iastore, 1) := by decide +kernel
theorem dX12_isLawfulWith_83 : decode cX12_isLawfulWith 83 = .ok (.aload_n 0, 1) := by decide +kernel
theorem dX12_isLawfulWith_84 : decode cX12_isLawfulWith 84 = .ok (.getfield 42, 3) := by decide +kernel
theorem dX12_isLawfulWith_87 : decode cX12_isLawfulWith 87 = .ok (.iconst 2, 1) := by decide +kernel
theorem dX12_isLawfulWith_88 : decode cX12_isLawfulWith 88 = .ok (.iload 4, 2) := by decide +kernel
theorem dX12_isLawfulWith_90 : decode cX12_isLawfulWith 90 = .ok (.iastore, 1) := by decide +kernel
theorem dX12_isLawfulWith_91 : decode cX12_isLawfulWith 91 = .ok (.iload 5, 2) := by decide +kernel
theorem dX12_isLawfulWith_93 : decode cX12_isLawfulWith 93 = .ok (.ifCond .lt 12, 3) := by decide +kernel
theorem dX12_isLawfulWith_96 : decode cX12_isLawfulWith 96 = .ok (.aload_n 0, 1) := by decide +kernel
theorem dX12_isLawfulWith_97 : decode cX12_isLawfulWith 97 = .ok (.iload 5, 2) := by decide +kernel
theorem dX12_isLawfulWith_99 : decode cX12_isLawfulWith 99 = .ok (.invokevirtual 102, 3) := by decide +kernel
theorem dX12_isLawfulWith_102 : decode cX12_isLawfulWith 102 = .ok (.ifCond .eq 7, 3) := by decide +kernel
theorem dX12_isLawfulWith_105 : decode cX12_isLawfulWith 105 = .ok (.iconst 1, 1) := by decide +kernel
theorem dX12_isLawfulWith_106 : decode cX12_isLawfulWith 106 = .ok (.goto 4, 3) := by decide +kernel
theorem dX12_isLawfulWith_109 : decode cX12_isLawfulWith 109 = .ok (.iconst 0, 1) := by decide +kernel
theorem dX12_isLawfulWith_110 : decode cX12_isLawfulWith 110 = .ok (.ireturn, 1) := by decide +kernel
theorem dX12_isLawful_0 : decode cX12_isLawful 0 = .ok (.aload_n 0, 1) := by decide +kernel
theorem dX12_isLawful_1 : decode cX12_isLawful 1 = .ok (.iload_n 1, 1) := by decide +kernel
theorem dX12_isLawful_2 : decode cX12_isLawful 2 = .ok (.aload_n 0, 1) := by decide +kernel
theorem dX12_isLawful_3 : decode cX12_isLawful 3 = .ok (.iload_n 1, 1) := by decide +kernel
theorem dX12_isLawful_4 : decode cX12_isLawful 4 = .ok (.iconst 3, 1) := by decide +kernel
theorem dX12_isLawful_5 : decode cX12_isLawful 5 = .ok (.invokevirtual 84, 3) := by decide +kernel
theorem dX12_isLawful_8 : decode cX12_isLawful 8 = .ok (.aload_n 0, 1) := by decide +kernel
theorem dX12_isLawful_9 : decode cX12_isLawful 9 = .ok (.iload_n 1, 1) := by decide +kernel
theorem dX12_isLawful_10 : decode cX12_isLawful 10 = .ok (.iconst 4, 1) := by decide +kernel
theorem dX12_isLawful_11 : decode cX12_isLawful 11 = .ok (.invokevirtual 84, 3) := by decide +kernel
theorem dX12_isLawful_14 : decode cX12_isLawful 14 = .ok (.invokevirtual 123, 3) := by decide +kernel
theorem dX12_isLawful_17 : decode cX12_isLawful 17 = .ok (.ireturn, 1) := by decide +kernel
theorem dX12_doorTold_0 : decode cX12_doorTold 0 = .ok (.aload_n 0, 1) := by decide +kernel
theorem dX12_doorTold_1 : decode cX12_doorTold 1 = .ok (.iload_n 1, 1) := by decide +kernel
theorem dX12_doorTold_2 : decode cX12_doorTold 2 = .ok (.invokevirtual 126, 3) := by decide +kernel
theorem dX12_doorTold_5 : decode cX12_doorTold 5 = .ok (.ifCond .eq 12, 3) := by decide +kernel
theorem dX12_doorTold_8 : decode cX12_doorTold 8 = .ok (.iload_n 2, 1) := by decide +kernel
theorem dX12_doorTold_9 : decode cX12_doorTold 9 = .ok (.iconst 0, 1) := by decide +kernel
theorem dX12_doorTold_10 : decode cX12_doorTold 10 = .ok (.iconst 5, 1) := by decide +kernel
theorem dX12_doorTold_11 : decode cX12_doorTold 11 = .ok (.invokestatic 73, 3) := by decide +kernel
theorem dX12_doorTold_14 : decode cX12_doorTold 14 = .ok (.ifCond .ne 6, 3) := by decide +kernel
theorem dX12_doorTold_17 : decode cX12_doorTold 17 = .ok (.ldc 78, 2) := by decide +kernel
theorem dX12_doorTold_19 : decode cX12_doorTold 19 = .ok (.ireturn, 1) := by decide +kernel
theorem dX12_doorTold_20 : decode cX12_doorTold 20 = .ok (.iload_n 2, 1) := by decide +kernel
theorem dX12_doorTold_21 : decode cX12_doorTold 21 = .ok (.iconst 5, 1) := by decide +kernel
theorem dX12_doorTold_22 : decode cX12_doorTold 22 = .ok (.if_icmp .ne 17, 3) := by decide +kernel
theorem dX12_doorTold_25 : decode cX12_doorTold 25 = .ok (.aload_n 0, 1) := by decide +kernel
theorem dX12_doorTold_26 : decode cX12_doorTold 26 = .ok (.iload_n 1, 1) := by decide +kernel
theorem dX12_doorTold_27 : decode cX12_doorTold 27 = .ok (.invokevirtual 129, 3) := by decide +kernel
theorem dX12_doorTold_30 : decode cX12_doorTold 30 = .ok (.ifCond .eq 7, 3) := by decide +kernel
theorem dX12_doorTold_33 : decode cX12_doorTold 33 = .ok (.iconst 1, 1) := by decide +kernel
theorem dX12_doorTold_34 : decode cX12_doorTold 34 = .ok (.goto 4, 3) := by decide +kernel
theorem dX12_doorTold_37 : decode cX12_doorTold 37 = .ok (.iconst 0, 1) := by decide +kernel
theorem dX12_doorTold_38 : decode cX12_doorTold 38 = .ok (.ireturn, 1) := by decide +kernel
theorem dX12_doorTold_39 : decode cX12_doorTold 39 = .ok (.iload_n 2, 1) := by decide +kernel
theorem dX12_doorTold_40 : decode cX12_doorTold 40 = .ok (.iconst 3, 1) := by decide +kernel
theorem dX12_doorTold_41 : decode cX12_doorTold 41 = .ok (.if_icmp .ge 12, 3) := by decide +kernel
theorem dX12_doorTold_44 : decode cX12_doorTold 44 = .ok (.aload_n 0, 1) := by decide +kernel
theorem dX12_doorTold_45 : decode cX12_doorTold 45 = .ok (.iload_n 1, 1) := by decide +kernel
theorem dX12_doorTold_46 : decode cX12_doorTold 46 = .ok (.iload_n 2, 1) := by decide +kernel
theorem dX12_doorTold_47 : decode cX12_doorTold 47 = .ok (.invokevirtual 84, 3) := by decide +kernel
theorem dX12_doorTold_50 : decode cX12_doorTold 50 = .ok (.goto 12, 3) := by decide +kernel
theorem dX12_doorTold_53 : decode cX12_doorTold 53 = .ok (.aload_n 0, 1) := by decide +kernel
theorem dX12_doorTold_54 : decode cX12_doorTold 54 = .ok (.iload_n 1, 1) := by decide +kernel
theorem dX12_doorTold_55 : decode cX12_doorTold 55 = .ok (.iload_n 2, 1) := by decide +kernel
theorem dX12_doorTold_56 : decode cX12_doorTold 56 = .ok (.invokevirtual 84, 3) := by decide +kernel
theorem dX12_doorTold_59 : decode cX12_doorTold 59 = .ok (.invokestatic 132, 3) := by decide +kernel
theorem dX12_doorTold_62 : decode cX12_doorTold 62 = .ok (.ireturn, 1) := by decide +kernel
theorem dX12_set_0 : decode cX12_set 0 = .ok (.aload_n 0, 1) := by decide +kernel
theorem dX12_set_1 : decode cX12_set 1 = .ok (.iload_n 1, 1) := by decide +kernel
theorem dX12_set_2 : decode cX12_set 2 = .ok (.invokevirtual 126, 3) := by decide +kernel
theorem dX12_set_5 : decode cX12_set 5 = .ok (.ifCond .eq 49, 3) := by decide +kernel
theorem dX12_set_8 : decode cX12_set 8 = .ok (.iload_n 2, 1) := by decide +kernel
theorem dX12_set_9 : decode cX12_set 9 = .ok (.iconst 1, 1) := by decide +kernel
theorem dX12_set_10 : decode cX12_set 10 = .ok (.iconst 2, 1) := by decide +kernel
theorem dX12_set_11 : decode cX12_set 11 = .ok (.invokestatic 73, 3) := by decide +kernel
theorem dX12_set_14 : decode cX12_set 14 = .ok (.ifCond .eq 40, 3) := by decide +kernel
theorem dX12_set_17 : decode cX12_set 17 = .ok (.iload_n 3, 1) := by decide +kernel
theorem dX12_set_18 : decode cX12_set 18 = .ok (.iconst 0, 1) := by decide +kernel
theorem dX12_set_19 : decode cX12_set 19 = .ok (.iload_n 2, 1) := by decide +kernel
theorem dX12_set_20 : decode cX12_set 20 = .ok (.iconst 1, 1) := by decide +kernel
theorem dX12_set_21 : decode cX12_set 21 = .ok (.if_icmp .ne 9, 3) := by decide +kernel
theorem dX12_set_24 : decode cX12_set 24 = .ok (.sipush 999, 3) := by decide +kernel
theorem dX12_set_27 : decode cX12_set 27 = .ok (.goto 5, 3) := by decide +kernel
theorem dX12_set_30 : decode cX12_set 30 = .ok (.bipush 9, 2) := by decide +kernel
theorem dX12_set_32 : decode cX12_set 32 = .ok (.invokestatic 73, 3) := by decide +kernel
theorem dX12_set_35 : decode cX12_set 35 = .ok (.ifCond .eq 19, 3) := by decide +kernel
theorem dX12_set_38 : decode cX12_set 38 = .ok (.aload_n 0, 1) := by decide +kernel
theorem dX12_set_39 : decode cX12_set 39 = .ok (.bipush 38, 2) := by decide +kernel
theorem dX12_set_41 : decode cX12_set 41 = .ok (.iconst 5, 1) := by decide +kernel
theorem dX12_set_42 : decode cX12_set 42 = .ok (.iload_n 1, 1) := by decide +kernel
theorem dX12_set_43 : decode cX12_set 43 = .ok (.imul, 1) := by decide +kernel
theorem dX12_set_44 : decode cX12_set 44 = .ok (.iadd, 1) := by decide +kernel
theorem dX12_set_45 : decode cX12_set 45 = .ok (.iload_n 2, 1) := by decide +kernel
theorem dX12_set_46 : decode cX12_set 46 = .ok (.iadd, 1) := by decide +kernel
theorem dX12_set_47 : decode cX12_set 47 = .ok (.iload_n 3, 1) := by decide +kernel
theorem dX12_set_48 : decode cX12_set 48 = .ok (.invokevirtual 112, 3) := by decide +kernel
theorem dX12_set_51 : decode cX12_set 51 = .ok (.goto 5, 3) := by decide +kernel
theorem dX12_set_54 : decode cX12_set 54 = .ok (.ldc 78, 2) := by decide +kernel
theorem dX12_set_56 : decode cX12_set 56 = .ok (.ireturn, 1) := by decide +kernel
theorem dX12_wire_0 : decode cX12_wire 0 = .ok (.aload_n 0, 1) := by decide +kernel
theorem dX12_wire_1 : decode cX12_wire 1 = .ok (.iload_n 1, 1) := by decide +kernel
theorem dX12_wire_2 : decode cX12_wire 2 = .ok (.invokevirtual 126, 3) := by decide +kernel
theorem dX12_wire_5 : decode cX12_wire 5 = .ok (.ifCond .eq 26, 3) := by decide +kernel
theorem dX12_wire_8 : decode cX12_wire 8 = .ok (.iload_n 2, 1) := by decide +kernel
theorem dX12_wire_9 : decode cX12_wire 9 = .ok (.iconst 0, 1) := by decide +kernel
theorem dX12_wire_10 : decode cX12_wire 10 = .ok (.iconst 1, 1) := by decide +kernel
theorem dX12_wire_11 : decode cX12_wire 11 = .ok (.invokestatic 73, 3) := by decide +kernel
theorem dX12_wire_14 : decode cX12_wire 14 = .ok (.ifCond .eq 17, 3) := by decide +kernel
theorem dX12_wire_17 : decode cX12_wire 17 = .ok (.iload_n 3, 1) := by decide +kernel
theorem dX12_wire_18 : decode cX12_wire 18 = .ok (.ldc 72, 2) := by decide +kernel
theorem dX12_wire_20 : decode cX12_wire 20 = .ok (.if_icmp .eq 14, 3) := by decide +kernel
theorem dX12_wire_23 : decode cX12_wire 23 = .ok (.aload_n 0, 1) := by decide +kernel
theorem dX12_wire_24 : decode cX12_wire 24 = .ok (.iload_n 3, 1) := by decide +kernel
theorem dX12_wire_25 : decode cX12_wire 25 = .ok (.invokevirtual 105, 3) := by decide +kernel
theorem dX12_wire_28 : decode cX12_wire 28 = .ok (.ifCond .ne 6, 3) := by decide +kernel
theorem dX12_wire_31 : decode cX12_wire 31 = .ok (.ldc 78, 2) := by decide +kernel
theorem dX12_wire_33 : decode cX12_wire 33 = .ok (.ireturn, 1) := by decide +kernel
theorem dX12_wire_34 : decode cX12_wire 34 = .ok (.aload_n 0, 1) := by decide +kernel
theorem dX12_wire_35 : decode cX12_wire 35 = .ok (.bipush 38, 2) := by decide +kernel
theorem dX12_wire_37 : decode cX12_wire 37 = .ok (.iconst 5, 1) := by decide +kernel
theorem dX12_wire_38 : decode cX12_wire 38 = .ok (.iload_n 1, 1) := by decide +kernel
theorem dX12_wire_39 : decode cX12_wire 39 = .ok (.imul, 1) := by decide +kernel
theorem dX12_wire_40 : decode cX12_wire 40 = .ok (.iadd, 1) := by decide +kernel
theorem dX12_wire_41 : decode cX12_wire 41 = .ok (.iconst 3, 1) := by decide +kernel
theorem dX12_wire_42 : decode cX12_wire 42 = .ok (.iadd, 1) := by decide +kernel
theorem dX12_wire_43 : decode cX12_wire 43 = .ok (.iload_n 2, 1) := by decide +kernel
theorem dX12_wire_44 : decode cX12_wire 44 = .ok (.iadd, 1) := by decide +kernel
theorem dX12_wire_45 : decode cX12_wire 45 = .ok (.iload_n 3, 1) := by decide +kernel
theorem dX12_wire_46 : decode cX12_wire 46 = .ok (.ldc 72, 2) := by decide +kernel
theorem dX12_wire_48 : decode cX12_wire 48 = .ok (.if_icmp .ne 7, 3) := by decide +kernel
theorem dX12_wire_51 : decode cX12_wire 51 = .ok (.iconst (-1), 1) := by decide +kernel
theorem dX12_wire_52 : decode cX12_wire 52 = .ok (.goto 4, 3) := by decide +kernel
theorem dX12_wire_55 : decode cX12_wire 55 = .ok (.iload_n 3, 1) := by decide +kernel
theorem dX12_wire_56 : decode cX12_wire 56 = .ok (.invokevirtual 112, 3) := by decide +kernel
theorem dX12_wire_59 : decode cX12_wire 59 = .ok (.invokestatic 132, 3) := by decide +kernel
theorem dX12_wire_62 : decode cX12_wire 62 = .ok (.ireturn, 1) := by decide +kernel
theorem dX12_thief_0 : decode cX12_thief 0 = .ok (.iload_n 1, 1) := by decide +kernel
theorem dX12_thief_1 : decode cX12_thief 1 = .ok (.iconst 0, 1) := by decide +kernel
theorem dX12_thief_2 : decode cX12_thief 2 = .ok (.iconst 5, 1) := by decide +kernel
theorem dX12_thief_3 : decode cX12_thief 3 = .ok (.invokestatic 73, 3) := by decide +kernel
theorem dX12_thief_6 : decode cX12_thief 6 = .ok (.ifCond .eq 11, 3) := by decide +kernel
theorem dX12_thief_9 : decode cX12_thief 9 = .ok (.aload_n 0, 1) := by decide +kernel
theorem dX12_thief_10 : decode cX12_thief 10 = .ok (.iload_n 2, 1) := by decide +kernel
theorem dX12_thief_11 : decode cX12_thief 11 = .ok (.invokevirtual 105, 3) := by decide +kernel
theorem dX12_thief_14 : decode cX12_thief 14 = .ok (.ifCond .ne 6, 3) := by decide +kernel
theorem dX12_thief_17 : decode cX12_thief 17 = .ok (.ldc 78, 2) := by decide +kernel
theorem dX12_thief_19 : decode cX12_thief 19 = .ok (.ireturn, 1) := by decide +kernel
theorem dX12_thief_20 : decode cX12_thief 20 = .ok (.aload_n 0, 1) := by decide +kernel
theorem dX12_thief_21 : decode cX12_thief 21 = .ok (.getfield 9, 3) := by decide +kernel
theorem dX12_thief_24 : decode cX12_thief 24 = .ok (.iconst 3, 1) := by decide +kernel
theorem dX12_thief_25 : decode cX12_thief 25 = .ok (.iaload, 1) := by decide +kernel
theorem dX12_thief_26 : decode cX12_thief 26 = .ok (.bipush 6, 2) := by decide +kernel
theorem dX12_thief_28 : decode cX12_thief 28 = .ok (.if_icmp .ne 6, 3) := by decide +kernel
theorem dX12_thief_31 : decode cX12_thief 31 = .ok (.ldc 79, 2) := by decide +kernel
theorem dX12_thief_33 : decode cX12_thief 33 = .ok (.ireturn, 1) := by decide +kernel
theorem dX12_thief_34 : decode cX12_thief 34 = .ok (.aload_n 0, 1) := by decide +kernel
theorem dX12_thief_35 : decode cX12_thief 35 = .ok (.getfield 9, 3) := by decide +kernel
theorem dX12_thief_38 : decode cX12_thief 38 = .ok (.bipush 98, 2) := by decide +kernel
theorem dX12_thief_40 : decode cX12_thief 40 = .ok (.iconst 2, 1) := by decide +kernel
theorem dX12_thief_41 : decode cX12_thief 41 = .ok (.aload_n 0, 1) := by decide +kernel
theorem dX12_thief_42 : decode cX12_thief 42 = .ok (.getfield 9, 3) := by decide +kernel
theorem dX12_thief_45 : decode cX12_thief 45 = .ok (.iconst 3, 1) := by decide +kernel
theorem dX12_thief_46 : decode cX12_thief 46 = .ok (.iaload, 1) := by decide +kernel
theorem dX12_thief_47 : decode cX12_thief 47 = .ok (.imul, 1) := by decide +kernel
theorem dX12_thief_48 : decode cX12_thief 48 = .ok (.iadd, 1) := by decide +kernel
theorem dX12_thief_49 : decode cX12_thief 49 = .ok (.iload_n 1, 1) := by decide +kernel
theorem dX12_thief_50 : decode cX12_thief 50 = .ok (.iastore, 1) := by decide +kernel
theorem dX12_thief_51 : decode cX12_thief 51 = .ok (.aload_n 0, 1) := by decide +kernel
theorem dX12_thief_52 : decode cX12_thief 52 = .ok (.getfield 9, 3) := by decide +kernel
theorem dX12_thief_55 : decode cX12_thief 55 = .ok (.bipush 98, 2) := by decide +kernel
theorem dX12_thief_57 : decode cX12_thief 57 = .ok (.iconst 2, 1) := by decide +kernel
theorem dX12_thief_58 : decode cX12_thief 58 = .ok (.aload_n 0, 1) := by decide +kernel
theorem dX12_thief_59 : decode cX12_thief 59 = .ok (.getfield 9, 3) := by decide +kernel
theorem dX12_thief_62 : decode cX12_thief 62 = .ok (.iconst 3, 1) := by decide +kernel
theorem dX12_thief_63 : decode cX12_thief 63 = .ok (.iaload, 1) := by decide +kernel
theorem dX12_thief_64 : decode cX12_thief 64 = .ok (.imul, 1) := by decide +kernel
theorem dX12_thief_65 : decode cX12_thief 65 = .ok (.iadd, 1) := by decide +kernel
theorem dX12_thief_66 : decode cX12_thief 66 = .ok (.iconst 1, 1) := by decide +kernel
theorem dX12_thief_67 : decode cX12_thief 67 = .ok (.iadd, 1) := by decide +kernel
theorem dX12_thief_68 : decode cX12_thief 68 = .ok (.iload_n 2, 1) := by decide +kernel
theorem dX12_thief_69 : decode cX12_thief 69 = .ok (.iastore, 1) := by decide +kernel
theorem dX12_thief_70 : decode cX12_thief 70 = .ok (.aload_n 0, 1) := by decide +kernel
theorem dX12_thief_71 : decode cX12_thief 71 = .ok (.getfield 9, 3) := by decide +kernel
theorem dX12_thief_74 : decode cX12_thief 74 = .ok (.iconst 3, 1) := by decide +kernel
theorem dX12_thief_75 : decode cX12_thief 75 = .ok (.dup2, 1) := by decide +kernel
theorem dX12_thief_76 : decode cX12_thief 76 = .ok (.iaload, 1) := by decide +kernel
theorem dX12_thief_77 : decode cX12_thief 77 = .ok (.iconst 1, 1) := by decide +kernel
theorem dX12_thief_78 : decode cX12_thief 78 = .ok (.iadd, 1) := by decide +kernel
theorem dX12_thief_79 : decode cX12_thief 79 = .ok (.iastore, 1) := by decide +kernel
theorem dX12_thief_80 : decode cX12_thief 80 = .ok (.aload_n 0, 1) := by decide +kernel
theorem dX12_thief_81 : decode cX12_thief 81 = .ok (.getfield 9, 3) := by decide +kernel
theorem dX12_thief_84 : decode cX12_thief 84 = .ok (.iconst 3, 1) := by decide +kernel
theorem dX12_thief_85 : decode cX12_thief 85 = .ok (.iaload, 1) := by decide +kernel
theorem dX12_thief_86 : decode cX12_thief 86 = .ok (.iconst 1, 1) := by decide +kernel
theorem dX12_thief_87 : decode cX12_thief 87 = .ok (.isub, 1) := by decide +kernel
theorem dX12_thief_88 : decode cX12_thief 88 = .ok (.ireturn, 1) := by decide +kernel
theorem dX12_worthOf_0 : decode cX12_worthOf 0 = .ok (.aload_n 0, 1) := by decide +kernel
theorem dX12_worthOf_1 : decode cX12_worthOf 1 = .ok (.iload_n 1, 1) := by decide +kernel
theorem dX12_worthOf_2 : decode cX12_worthOf 2 = .ok (.invokevirtual 135, 3) := by decide +kernel
theorem dX12_worthOf_5 : decode cX12_worthOf 5 = .ok (.istore_n 2, 1) := by decide +kernel
theorem dX12_worthOf_6 : decode cX12_worthOf 6 = .ok (.aload_n 0, 1) := by decide +kernel
theorem dX12_worthOf_7 : decode cX12_worthOf 7 = .ok (.iload_n 1, 1) := by decide +kernel
theorem dX12_worthOf_8 : decode cX12_worthOf 8 = .ok (.invokevirtual 138, 3) := by decide +kernel
theorem dX12_worthOf_11 : decode cX12_worthOf 11 = .ok (.tableswitch 57 1 5 #[33, 38, 42, 49, 54], 33) := by decide +kernel
theorem dX12_worthOf_44 : decode cX12_worthOf 44 = .ok (.iload_n 2, 1) := by decide +kernel
theorem dX12_worthOf_45 : decode cX12_worthOf 45 = .ok (.bipush 10, 2) := by decide +kernel
theorem dX12_worthOf_47 : decode cX12_worthOf 47 = .ok (.iadd, 1) := by decide +kernel
theorem dX12_worthOf_48 : decode cX12_worthOf 48 = .ok (.ireturn, 1) := by decide +kernel
theorem dX12_worthOf_49 : decode cX12_worthOf 49 = .ok (.iload_n 2, 1) := by decide +kernel
theorem dX12_worthOf_50 : decode cX12_worthOf 50 = .ok (.iconst 1, 1) := by decide +kernel
theorem dX12_worthOf_51 : decode cX12_worthOf 51 = .ok (.isub, 1) := by decide +kernel
theorem dX12_worthOf_52 : decode cX12_worthOf 52 = .ok (.ireturn, 1) := by decide +kernel
theorem dX12_worthOf_53 : decode cX12_worthOf 53 = .ok (.iconst 2, 1) := by decide +kernel
theorem dX12_worthOf_54 : decode cX12_worthOf 54 = .ok (.iload_n 2, 1) := by decide +kernel
theorem dX12_worthOf_55 : decode cX12_worthOf 55 = .ok (.bipush 10, 2) := by decide +kernel
theorem dX12_worthOf_57 : decode cX12_worthOf 57 = .ok (.iadd, 1) := by decide +kernel
theorem dX12_worthOf_58 : decode cX12_worthOf 58 = .ok (.imul, 1) := by decide +kernel
theorem dX12_worthOf_59 : decode cX12_worthOf 59 = .ok (.ireturn, 1) := by decide +kernel
theorem dX12_worthOf_60 : decode cX12_worthOf 60 = .ok (.iload_n 2, 1) := by decide +kernel
theorem dX12_worthOf_61 : decode cX12_worthOf 61 = .ok (.bipush 19, 2) := by decide +kernel
theorem dX12_worthOf_63 : decode cX12_worthOf 63 = .ok (.iadd, 1) := by decide +kernel
theorem dX12_worthOf_64 : decode cX12_worthOf 64 = .ok (.ireturn, 1) := by decide +kernel
theorem dX12_worthOf_65 : decode cX12_worthOf 65 = .ok (.bipush 30, 2) := by decide +kernel
theorem dX12_worthOf_67 : decode cX12_worthOf 67 = .ok (.ireturn, 1) := by decide +kernel
theorem dX12_worthOf_68 : decode cX12_worthOf 68 = .ok (.iload_n 2, 1) := by decide +kernel
theorem dX12_worthOf_69 : decode cX12_worthOf 69 = .ok (.ireturn, 1) := by decide +kernel
theorem dX12_told_0 : decode cX12_told 0 = .ok (.aload_n 0, 1) := by decide +kernel
theorem dX12_told_1 : decode cX12_told 1 = .ok (.iload_n 1, 1) := by decide +kernel
theorem dX12_told_2 : decode cX12_told 2 = .ok (.invokevirtual 141, 3) := by decide +kernel
theorem dX12_told_5 : decode cX12_told 5 = .ok (.ifCond .eq 12, 3) := by decide +kernel
theorem dX12_told_8 : decode cX12_told 8 = .ok (.iload_n 2, 1) := by decide +kernel
theorem dX12_told_9 : decode cX12_told 9 = .ok (.iconst 0, 1) := by decide +kernel
theorem dX12_told_10 : decode cX12_told 10 = .ok (.iconst 2, 1) := by decide +kernel
theorem dX12_told_11 : decode cX12_told 11 = .ok (.invokestatic 73, 3) := by decide +kernel
theorem dX12_told_14 : decode cX12_told 14 = .ok (.ifCond .ne 6, 3) := by decide +kernel
theorem dX12_told_17 : decode cX12_told 17 = .ok (.ldc 78, 2) := by decide +kernel
theorem dX12_told_19 : decode cX12_told 19 = .ok (.ireturn, 1) := by decide +kernel
theorem dX12_told_20 : decode cX12_told 20 = .ok (.iload_n 2, 1) := by decide +kernel
theorem dX12_told_21 : decode cX12_told 21 = .ok (.ifCond .ne 11, 3) := by decide +kernel
theorem dX12_told_24 : decode cX12_told 24 = .ok (.aload_n 0, 1) := by decide +kernel
theorem dX12_told_25 : decode cX12_told 25 = .ok (.iload_n 1, 1) := by decide +kernel
theorem dX12_told_26 : decode cX12_told 26 = .ok (.invokevirtual 138, 3) := by decide +kernel
theorem dX12_told_29 : decode cX12_told 29 = .ok (.goto 21, 3) := by decide +kernel
theorem dX12_told_32 : decode cX12_told 32 = .ok (.iload_n 2, 1) := by decide +kernel
theorem dX12_told_33 : decode cX12_told 33 = .ok (.iconst 1, 1) := by decide +kernel
theorem dX12_told_34 : decode cX12_told 34 = .ok (.if_icmp .ne 11, 3) := by decide +kernel
theorem dX12_told_37 : decode cX12_told 37 = .ok (.aload_n 0, 1) := by decide +kernel
theorem dX12_told_38 : decode cX12_told 38 = .ok (.iload_n 1, 1) := by decide +kernel
theorem dX12_told_39 : decode cX12_told 39 = .ok (.invokevirtual 135, 3) := by decide +kernel
theorem dX12_told_42 : decode cX12_told 42 = .ok (.goto 8, 3) := by decide +kernel
theorem dX12_told_45 : decode cX12_told 45 = .ok (.aload_n 0, 1) := by decide +kernel
theorem dX12_told_46 : decode cX12_told 46 = .ok (.iload_n 1, 1) := by decide +kernel
theorem dX12_told_47 : decode cX12_told 47 = .ok (.invokevirtual 144, 3) := by decide +kernel
theorem dX12_told_50 : decode cX12_told 50 = .ok (.ireturn, 1) := by decide +kernel
theorem dX12_isUnder_0 : decode cX12_isUnder 0 = .ok (.iload_n 1, 1) := by decide +kernel
theorem dX12_isUnder_1 : decode cX12_isUnder 1 = .ok (.ifCond .eq 28, 3) := by decide +kernel
theorem dX12_isUnder_4 : decode cX12_isUnder 4 = .ok (.iload_n 0, 1) := by decide +kernel
theorem dX12_isUnder_5 : decode cX12_isUnder 5 = .ok (.iload_n 1, 1) := by decide +kernel
theorem dX12_isUnder_6 : decode cX12_isUnder 6 = .ok (.if_icmp .eq 23, 3) := by decide +kernel
theorem dX12_isUnder_9 : decode cX12_isUnder 9 = .ok (.iload_n 1, 1) := by decide +kernel
theorem dX12_isUnder_10 : decode cX12_isUnder 10 = .ok (.iconst 1, 1) := by decide +kernel
theorem dX12_isUnder_11 : decode cX12_isUnder 11 = .ok (.if_icmp .ne 8, 3) := by decide +kernel
theorem dX12_isUnder_14 : decode cX12_isUnder 14 = .ok (.iload_n 0, 1) := by decide +kernel
theorem dX12_isUnder_15 : decode cX12_isUnder 15 = .ok (.iconst 3, 1) := by decide +kernel
theorem dX12_isUnder_16 : decode cX12_isUnder 16 = .ok (.if_icmp .eq 13, 3) := by decide +kernel
theorem dX12_isUnder_19 : decode cX12_isUnder 19 = .ok (.iload_n 1, 1) := by decide +kernel
theorem dX12_isUnder_20 : decode cX12_isUnder 20 = .ok (.iconst 2, 1) := by decide +kernel
theorem dX12_isUnder_21 : decode cX12_isUnder 21 = .ok (.if_icmp .ne 12, 3) := by decide +kernel
theorem dX12_isUnder_24 : decode cX12_isUnder 24 = .ok (.iload_n 0, 1) := by decide +kernel
theorem dX12_isUnder_25 : decode cX12_isUnder 25 = .ok (.iconst 4, 1) := by decide +kernel
theorem dX12_isUnder_26 : decode cX12_isUnder 26 = .ok (.if_icmp .ne 7, 3) := by decide +kernel
theorem dX12_isUnder_29 : decode cX12_isUnder 29 = .ok (.iconst 1, 1) := by decide +kernel
theorem dX12_isUnder_30 : decode cX12_isUnder 30 = .ok (.goto 4, 3) := by decide +kernel
theorem dX12_isUnder_33 : decode cX12_isUnder 33 = .ok (.iconst 0, 1) := by decide +kernel
theorem dX12_isUnder_34 : decode cX12_isUnder 34 = .ok (.ireturn, 1) := by decide +kernel
theorem dX12_as_0 : decode cX12_as 0 = .ok (.aload_n 0, 1) := by decide +kernel
theorem dX12_as_1 : decode cX12_as 1 = .ok (.iload_n 1, 1) := by decide +kernel
theorem dX12_as_2 : decode cX12_as 2 = .ok (.invokevirtual 141, 3) := by decide +kernel
theorem dX12_as_5 : decode cX12_as 5 = .ok (.ifCond .eq 12, 3) := by decide +kernel
theorem dX12_as_8 : decode cX12_as 8 = .ok (.iload_n 2, 1) := by decide +kernel
theorem dX12_as_9 : decode cX12_as 9 = .ok (.iconst 0, 1) := by decide +kernel
theorem dX12_as_10 : decode cX12_as 10 = .ok (.iconst 5, 1) := by decide +kernel
theorem dX12_as_11 : decode cX12_as 11 = .ok (.invokestatic 73, 3) := by decide +kernel
theorem dX12_as_14 : decode cX12_as 14 = .ok (.ifCond .ne 6, 3) := by decide +kernel
theorem dX12_as_17 : decode cX12_as 17 = .ok (.ldc 78, 2) := by decide +kernel
theorem dX12_as_19 : decode cX12_as 19 = .ok (.ireturn, 1) := by decide +kernel
theorem dX12_as_20 : decode cX12_as 20 = .ok (.aload_n 0, 1) := by decide +kernel
theorem dX12_as_21 : decode cX12_as 21 = .ok (.iload_n 1, 1) := by decide +kernel
theorem dX12_as_22 : decode cX12_as 22 = .ok (.invokevirtual 138, 3) := by decide +kernel
theorem dX12_as_25 : decode cX12_as 25 = .ok (.iload_n 2, 1) := by decide +kernel
theorem dX12_as_26 : decode cX12_as 26 = .ok (.invokestatic 147, 3) := by decide +kernel
theorem dX12_as_29 : decode cX12_as 29 = .ok (.ifCond .eq 11, 3) := by decide +kernel
theorem dX12_as_32 : decode cX12_as 32 = .ok (.aload_n 0, 1) := by decide +kernel
theorem dX12_as_33 : decode cX12_as 33 = .ok (.iload_n 1, 1) := by decide +kernel
theorem dX12_as_34 : decode cX12_as 34 = .ok (.invokevirtual 135, 3) := by decide +kernel
theorem dX12_as_37 : decode cX12_as 37 = .ok (.goto 5, 3) := by decide +kernel
theorem dX12_as_40 : decode cX12_as 40 = .ok (.ldc 150, 2) := by decide +kernel
theorem dX12_as_42 : decode cX12_as 42 = .ok (.ireturn, 1) := by decide +kernel
theorem dX12_turns_0 : decode cX12_turns 0 = .ok (.aload_n 0, 1) := by decide +kernel
theorem dX12_turns_1 : decode cX12_turns 1 = .ok (.iload_n 1, 1) := by decide +kernel
theorem dX12_turns_2 : decode cX12_turns 2 = .ok (.invokevirtual 141, 3) := by decide +kernel
theorem dX12_turns_5 : decode cX12_turns 5 = .ok (.ifCond .eq 26, 3) := by decide +kernel
theorem dX12_turns_8 : decode cX12_turns 8 = .ok (.iload_n 2, 1) := by decide +kernel
theorem dX12_turns_9 : decode cX12_turns 9 = .ok (.iconst 0, 1) := by decide +kernel
theorem dX12_turns_10 : decode cX12_turns 10 = .ok (.iconst 5, 1) := by decide +kernel
theorem dX12_turns_11 : decode cX12_turns 11 = .ok (.invokestatic 73, 3) := by decide +kernel
theorem dX12_turns_14 : decode cX12_turns 14 = .ok (.ifCond .eq 17, 3) := by decide +kernel
theorem dX12_turns_17 : decode cX12_turns 17 = .ok (.aload_n 0, 1) := by decide +kernel
theorem dX12_turns_18 : decode cX12_turns 18 = .ok (.bipush 98, 2) := by decide +kernel
theorem dX12_turns_20 : decode cX12_turns 20 = .ok (.iconst 2, 1) := by decide +kernel
theorem dX12_turns_21 : decode cX12_turns 21 = .ok (.iload_n 1, 1) := by decide +kernel
theorem dX12_turns_22 : decode cX12_turns 22 = .ok (.imul, 1) := by decide +kernel
theorem dX12_turns_23 : decode cX12_turns 23 = .ok (.iadd, 1) := by decide +kernel
theorem dX12_turns_24 : decode cX12_turns 24 = .ok (.iload_n 2, 1) := by decide +kernel
theorem dX12_turns_25 : decode cX12_turns 25 = .ok (.invokevirtual 112, 3) := by decide +kernel
theorem dX12_turns_28 : decode cX12_turns 28 = .ok (.goto 5, 3) := by decide +kernel
theorem dX12_turns_31 : decode cX12_turns 31 = .ok (.ldc 78, 2) := by decide +kernel
theorem dX12_turns_33 : decode cX12_turns 33 = .ok (.ireturn, 1) := by decide +kernel
theorem dX12_heedOf_0 : decode cX12_heedOf 0 = .ok (.aload_n 0, 1) := by decide +kernel
theorem dX12_heedOf_1 : decode cX12_heedOf 1 = .ok (.iload_n 2, 1) := by decide +kernel
theorem dX12_heedOf_2 : decode cX12_heedOf 2 = .ok (.invokevirtual 109, 3) := by decide +kernel
theorem dX12_heedOf_5 : decode cX12_heedOf 5 = .ok (.istore_n 3, 1) := by decide +kernel
theorem dX12_heedOf_6 : decode cX12_heedOf 6 = .ok (.aload_n 0, 1) := by decide +kernel
theorem dX12_heedOf_7 : decode cX12_heedOf 7 = .ok (.iload_n 1, 1) := by decide +kernel
theorem dX12_heedOf_8 : decode cX12_heedOf 8 = .ok (.invokevirtual 135, 3) := by decide +kernel
theorem dX12_heedOf_11 : decode cX12_heedOf 11 = .ok (.istore 4, 2) := by decide +kernel
theorem dX12_heedOf_13 : decode cX12_heedOf 13 = .ok (.aload_n 0, 1) := by decide +kernel
theorem dX12_heedOf_14 : decode cX12_heedOf 14 = .ok (.iload_n 1, 1) := by decide +kernel
theorem dX12_heedOf_15 : decode cX12_heedOf 15 = .ok (.invokevirtual 138, 3) := by decide +kernel
theorem dX12_heedOf_18 : decode cX12_heedOf 18 = .ok (.tableswitch 67 2 5 #[30, 34, 30, 56], 30) := by decide +kernel
theorem dX12_heedOf_48 : decode cX12_heedOf 48 = .ok (.iload_n 3, 1) := by decide +kernel
theorem dX12_heedOf_49 : decode cX12_heedOf 49 = .ok (.iconst 2, 1) := by decide +kernel
theorem dX12_heedOf_50 : decode cX12_heedOf 50 = .ok (.idiv, 1) := by decide +kernel
theorem dX12_heedOf_51 : decode cX12_heedOf 51 = .ok (.ireturn, 1) := by decide +kernel
theorem dX12_heedOf_52 : decode cX12_heedOf 52 = .ok (.iload_n 2, 1) := by decide +kernel
theorem dX12_heedOf_53 : decode cX12_heedOf 53 = .ok (.iload 4, 2) := by decide +kernel
theorem dX12_heedOf_55 : decode cX12_heedOf 55 = .ok (.if_icmp .eq 13, 3) := by decide +kernel
theorem dX12_heedOf_58 : decode cX12_heedOf 58 = .ok (.aload_n 0, 1) := by decide +kernel
theorem dX12_heedOf_59 : decode cX12_heedOf 59 = .ok (.iload 4, 2) := by decide +kernel
theorem dX12_heedOf_61 : decode cX12_heedOf 61 = .ok (.iload_n 2, 1) := by decide +kernel
theorem dX12_heedOf_62 : decode cX12_heedOf 62 = .ok (.invokevirtual 115, 3) := by decide +kernel
theorem dX12_heedOf_65 : decode cX12_heedOf 65 = .ok (.ifCond .eq 7, 3) := by decide +kernel
theorem dX12_heedOf_68 : decode cX12_heedOf 68 = .ok (.iconst 0, 1) := by decide +kernel
theorem dX12_heedOf_69 : decode cX12_heedOf 69 = .ok (.goto 4, 3) := by decide +kernel
theorem dX12_heedOf_72 : decode cX12_heedOf 72 = .ok (.iload_n 3, 1) := by decide +kernel
theorem dX12_heedOf_73 : decode cX12_heedOf 73 = .ok (.ireturn, 1) := by decide +kernel
theorem dX12_heedOf_74 : decode cX12_heedOf 74 = .ok (.iload_n 3, 1) := by decide +kernel
theorem dX12_heedOf_75 : decode cX12_heedOf 75 = .ok (.bipush 30, 2) := by decide +kernel
theorem dX12_heedOf_77 : decode cX12_heedOf 77 = .ok (.isub, 1) := by decide +kernel
theorem dX12_heedOf_78 : decode cX12_heedOf 78 = .ok (.iconst 0, 1) := by decide +kernel
theorem dX12_heedOf_79 : decode cX12_heedOf 79 = .ok (.bipush 100, 2) := by decide +kernel
theorem dX12_heedOf_81 : decode cX12_heedOf 81 = .ok (.invokestatic 98, 3) := by decide +kernel
theorem dX12_heedOf_84 : decode cX12_heedOf 84 = .ok (.ireturn, 1) := by decide +kernel
theorem dX12_heedOf_85 : decode cX12_heedOf 85 = .ok (.iload_n 3, 1) := by decide +kernel
theorem dX12_heedOf_86 : decode cX12_heedOf 86 = .ok (.ireturn, 1) := by decide +kernel
theorem dX12_missedAt_0 : decode cX12_missedAt 0 = .ok (.iconst 1, 1) := by decide +kernel
theorem dX12_missedAt_1 : decode cX12_missedAt 1 = .ok (.istore_n 3, 1) := by decide +kernel
theorem dX12_missedAt_2 : decode cX12_missedAt 2 = .ok (.iconst 0, 1) := by decide +kernel
theorem dX12_missedAt_3 : decode cX12_missedAt 3 = .ok (.istore 4, 2) := by decide +kernel
theorem dX12_missedAt_5 : decode cX12_missedAt 5 = .ok (.iload 4, 2) := by decide +kernel
theorem dX12_missedAt_7 : decode cX12_missedAt 7 = .ok (.iconst 2, 1) := by decide +kernel
theorem dX12_missedAt_8 : decode cX12_missedAt 8 = .ok (.if_icmp .ge 43, 3) := by decide +kernel
theorem dX12_missedAt_11 : decode cX12_missedAt 11 = .ok (.aload_n 0, 1) := by decide +kernel
theorem dX12_missedAt_12 : decode cX12_missedAt 12 = .ok (.iload_n 2, 1) := by decide +kernel
theorem dX12_missedAt_13 : decode cX12_missedAt 13 = .ok (.iconst 3, 1) := by decide +kernel
theorem dX12_missedAt_14 : decode cX12_missedAt 14 = .ok (.iload 4, 2) := by decide +kernel
theorem dX12_missedAt_16 : decode cX12_missedAt 16 = .ok (.iadd, 1) := by decide +kernel
theorem dX12_missedAt_17 : decode cX12_missedAt 17 = .ok (.invokevirtual 84, 3) := by decide +kernel
theorem dX12_missedAt_20 : decode cX12_missedAt 20 = .ok (.istore 5, 2) := by decide +kernel
theorem dX12_missedAt_22 : decode cX12_missedAt 22 = .ok (.iload_n 3, 1) := by decide +kernel
theorem dX12_missedAt_23 : decode cX12_missedAt 23 = .ok (.iload 5, 2) := by decide +kernel
theorem dX12_missedAt_25 : decode cX12_missedAt 25 = .ok (.ifCond .ge 8, 3) := by decide +kernel
theorem dX12_missedAt_28 : decode cX12_missedAt 28 = .ok (.bipush 100, 2) := by decide +kernel
theorem dX12_missedAt_30 : decode cX12_missedAt 30 = .ok (.goto 13, 3) := by decide +kernel
theorem dX12_missedAt_33 : decode cX12_missedAt 33 = .ok (.bipush 100, 2) := by decide +kernel
theorem dX12_missedAt_35 : decode cX12_missedAt 35 = .ok (.aload_n 0, 1) := by decide +kernel
theorem dX12_missedAt_36 : decode cX12_missedAt 36 = .ok (.iload_n 1, 1) := by decide +kernel
theorem dX12_missedAt_37 : decode cX12_missedAt 37 = .ok (.iload 5, 2) := by decide +kernel
theorem dX12_missedAt_39 : decode cX12_missedAt 39 = .ok (.invokevirtual 151, 3) := by decide +kernel
theorem dX12_missedAt_42 : decode cX12_missedAt 42 = .ok (.isub, 1) := by decide +kernel
theorem dX12_missedAt_43 : decode cX12_missedAt 43 = .ok (.imul, 1) := by decide +kernel
theorem dX12_missedAt_44 : decode cX12_missedAt 44 = .ok (.istore_n 3, 1) := by decide +kernel
theorem dX12_missedAt_45 : decode cX12_missedAt 45 = .ok (.iinc 4 1, 3) := by decide +kernel
theorem dX12_missedAt_48 : decode cX12_missedAt 48 = .ok (.goto (-43), 3) := by decide +kernel
theorem dX12_missedAt_51 : decode cX12_missedAt 51 = .ok (.iload_n 3, 1) := by decide +kernel
theorem dX12_missedAt_52 : decode cX12_missedAt 52 = .ok (.ireturn, 1) := by decide +kernel
theorem dX12_gainAt_0 : decode cX12_gainAt 0 = .ok (.aload_n 0, 1) := by decide +kernel
theorem dX12_gainAt_1 : decode cX12_gainAt 1 = .ok (.iload_n 1, 1) := by decide +kernel
theorem dX12_gainAt_2 : decode cX12_gainAt 2 = .ok (.iload_n 2, 1) := by decide +kernel
theorem dX12_gainAt_3 : decode cX12_gainAt 3 = .ok (.invokevirtual 154, 3) := by decide +kernel
theorem dX12_gainAt_6 : decode cX12_gainAt 6 = .ok (.istore_n 3, 1) := by decide +kernel
theorem dX12_gainAt_7 : decode cX12_gainAt 7 = .ok (.aload_n 0, 1) := by decide +kernel
theorem dX12_gainAt_8 : decode cX12_gainAt 8 = .ok (.iconst 1, 1) := by decide +kernel
theorem dX12_gainAt_9 : decode cX12_gainAt 9 = .ok (.invokevirtual 91, 3) := by decide +kernel
theorem dX12_gainAt_12 : decode cX12_gainAt 12 = .ok (.istore 4, 2) := by decide +kernel
theorem dX12_gainAt_14 : decode cX12_gainAt 14 = .ok (.aload_n 0, 1) := by decide +kernel
theorem dX12_gainAt_15 : decode cX12_gainAt 15 = .ok (.getfield 42, 3) := by decide +kernel
theorem dX12_gainAt_18 : decode cX12_gainAt 18 = .ok (.iconst 0, 1) := by decide +kernel
theorem dX12_gainAt_19 : decode cX12_gainAt 19 = .ok (.aload_n 0, 1) := by decide +kernel
theorem dX12_gainAt_20 : decode cX12_gainAt 20 = .ok (.iload_n 2, 1) := by decide +kernel
theorem dX12_gainAt_21 : decode cX12_gainAt 21 = .ok (.iconst 1, 1) := by decide +kernel
theorem dX12_gainAt_22 : decode cX12_gainAt 22 = .ok (.invokevirtual 84, 3) := by decide +kernel
theorem dX12_gainAt_25 : decode cX12_gainAt 25 = .ok (.iastore, 1) := by decide +kernel
theorem dX12_gainAt_26 : decode cX12_gainAt 26 = .ok (.aload_n 0, 1) := by decide +kernel
theorem dX12_gainAt_27 : decode cX12_gainAt 27 = .ok (.getfield 42, 3) := by decide +kernel
theorem dX12_gainAt_30 : decode cX12_gainAt 30 = .ok (.iconst 1, 1) := by decide +kernel
theorem dX12_gainAt_31 : decode cX12_gainAt 31 = .ok (.iload_n 3, 1) := by decide +kernel
theorem dX12_gainAt_32 : decode cX12_gainAt 32 = .ok (.iastore, 1) := by decide +kernel
theorem dX12_gainAt_33 : decode cX12_gainAt 33 = .ok (.iload 4, 2) := by decide +kernel
theorem dX12_gainAt_35 : decode cX12_gainAt 35 = .ok (.ifCond .ge 18, 3) := by decide +kernel
theorem dX12_gainAt_38 : decode cX12_gainAt 38 = .ok (.aload_n 0, 1) := by decide +kernel
theorem dX12_gainAt_39 : decode cX12_gainAt 39 = .ok (.iload_n 2, 1) := by decide +kernel
theorem dX12_gainAt_40 : decode cX12_gainAt 40 = .ok (.iconst 1, 1) := by decide +kernel
theorem dX12_gainAt_41 : decode cX12_gainAt 41 = .ok (.invokevirtual 84, 3) := by decide +kernel
theorem dX12_gainAt_44 : decode cX12_gainAt 44 = .ok (.iload_n 3, 1) := by decide +kernel
theorem dX12_gainAt_45 : decode cX12_gainAt 45 = .ok (.imul, 1) := by decide +kernel
theorem dX12_gainAt_46 : decode cX12_gainAt 46 = .ok (.sipush 10000, 3) := by decide +kernel
theorem dX12_gainAt_49 : decode cX12_gainAt 49 = .ok (.idiv, 1) := by decide +kernel
theorem dX12_gainAt_50 : decode cX12_gainAt 50 = .ok (.goto 15, 3) := by decide +kernel
theorem dX12_gainAt_53 : decode cX12_gainAt 53 = .ok (.aload_n 0, 1) := by decide +kernel
theorem dX12_gainAt_54 : decode cX12_gainAt 54 = .ok (.iload 4, 2) := by decide +kernel
theorem dX12_gainAt_56 : decode cX12_gainAt 56 = .ok (.invokevirtual 102, 3) := by decide +kernel
theorem dX12_gainAt_59 : decode cX12_gainAt 59 = .ok (.iconst 0, 1) := by decide +kernel
theorem dX12_gainAt_60 : decode cX12_gainAt 60 = .ok (.ldc 157, 2) := by decide +kernel
theorem dX12_gainAt_62 : decode cX12_gainAt 62 = .ok (.invokestatic 98, 3) := by decide +kernel
theorem dX12_gainAt_65 : decode cX12_gainAt 65 = .ok (.ireturn, 1) := by decide +kernel
theorem dX12_isOpen_0 : decode cX12_isOpen 0 = .ok (.aload_n 0, 1) := by decide +kernel
theorem dX12_isOpen_1 : decode cX12_isOpen 1 = .ok (.iload_n 2, 1) := by decide +kernel
theorem dX12_isOpen_2 : decode cX12_isOpen 2 = .ok (.iconst 0, 1) := by decide +kernel
theorem dX12_isOpen_3 : decode cX12_isOpen 3 = .ok (.invokevirtual 84, 3) := by decide +kernel
theorem dX12_isOpen_6 : decode cX12_isOpen 6 = .ok (.aload_n 0, 1) := by decide +kernel
theorem dX12_isOpen_7 : decode cX12_isOpen 7 = .ok (.iload_n 1, 1) := by decide +kernel
theorem dX12_isOpen_8 : decode cX12_isOpen 8 = .ok (.invokevirtual 135, 3) := by decide +kernel
theorem dX12_isOpen_11 : decode cX12_isOpen 11 = .ok (.if_icmp .ne 7, 3) := by decide +kernel
theorem dX12_isOpen_14 : decode cX12_isOpen 14 = .ok (.iconst 1, 1) := by decide +kernel
theorem dX12_isOpen_15 : decode cX12_isOpen 15 = .ok (.goto 4, 3) := by decide +kernel
theorem dX12_isOpen_18 : decode cX12_isOpen 18 = .ok (.iconst 0, 1) := by decide +kernel
theorem dX12_isOpen_19 : decode cX12_isOpen 19 = .ok (.ireturn, 1) := by decide +kernel
theorem dX12_at_0 : decode cX12_at 0 = .ok (.aload_n 0, 1) := by decide +kernel
theorem dX12_at_1 : decode cX12_at 1 = .ok (.iload_n 1, 1) := by decide +kernel
theorem dX12_at_2 : decode cX12_at 2 = .ok (.invokevirtual 141, 3) := by decide +kernel
theorem dX12_at_5 : decode cX12_at 5 = .ok (.ifCond .eq 20, 3) := by decide +kernel
theorem dX12_at_8 : decode cX12_at 8 = .ok (.aload_n 0, 1) := by decide +kernel
theorem dX12_at_9 : decode cX12_at 9 = .ok (.iload_n 2, 1) := by decide +kernel
theorem dX12_at_10 : decode cX12_at 10 = .ok (.invokevirtual 126, 3) := by decide +kernel
theorem dX12_at_13 : decode cX12_at 13 = .ok (.ifCond .eq 12, 3) := by decide +kernel
theorem dX12_at_16 : decode cX12_at 16 = .ok (.iload_n 3, 1) := by decide +kernel
theorem dX12_at_17 : decode cX12_at 17 = .ok (.iconst 0, 1) := by decide +kernel
theorem dX12_at_18 : decode cX12_at 18 = .ok (.iconst 2, 1) := by decide +kernel
theorem dX12_at_19 : decode cX12_at 19 = .ok (.invokestatic 73, 3) := by decide +kernel
theorem dX12_at_22 : decode cX12_at 22 = .ok (.ifCond .ne 6, 3) := by decide +kernel
theorem dX12_at_25 : decode cX12_at 25 = .ok (.ldc 78, 2) := by decide +kernel
theorem dX12_at_27 : decode cX12_at 27 = .ok (.ireturn, 1) := by decide +kernel
theorem dX12_at_28 : decode cX12_at 28 = .ok (.iload_n 3, 1) := by decide +kernel
theorem dX12_at_29 : decode cX12_at 29 = .ok (.ifCond .ne 12, 3) := by decide +kernel
theorem dX12_at_32 : decode cX12_at 32 = .ok (.aload_n 0, 1) := by decide +kernel
theorem dX12_at_33 : decode cX12_at 33 = .ok (.iload_n 1, 1) := by decide +kernel
theorem dX12_at_34 : decode cX12_at 34 = .ok (.iload_n 2, 1) := by decide +kernel
theorem dX12_at_35 : decode cX12_at 35 = .ok (.invokevirtual 154, 3) := by decide +kernel
theorem dX12_at_38 : decode cX12_at 38 = .ok (.goto 31, 3) := by decide +kernel
theorem dX12_at_41 : decode cX12_at 41 = .ok (.iload_n 3, 1) := by decide +kernel
theorem dX12_at_42 : decode cX12_at 42 = .ok (.iconst 1, 1) := by decide +kernel
theorem dX12_at_43 : decode cX12_at 43 = .ok (.if_icmp .ne 12, 3) := by decide +kernel
theorem dX12_at_46 : decode cX12_at 46 = .ok (.aload_n 0, 1) := by decide +kernel
theorem dX12_at_47 : decode cX12_at 47 = .ok (.iload_n 1, 1) := by decide +kernel
theorem dX12_at_48 : decode cX12_at 48 = .ok (.iload_n 2, 1) := by decide +kernel
theorem dX12_at_49 : decode cX12_at 49 = .ok (.invokevirtual 158, 3) := by decide +kernel
theorem dX12_at_52 : decode cX12_at 52 = .ok (.goto 17, 3) := by decide +kernel
theorem dX12_at_55 : decode cX12_at 55 = .ok (.aload_n 0, 1) := by decide +kernel
theorem dX12_at_56 : decode cX12_at 56 = .ok (.iload_n 1, 1) := by decide +kernel
theorem dX12_at_57 : decode cX12_at 57 = .ok (.iload_n 2, 1) := by decide +kernel
theorem dX12_at_58 : decode cX12_at 58 = .ok (.invokevirtual 161, 3) := by decide +kernel
theorem dX12_at_61 : decode cX12_at 61 = .ok (.ifCond .eq 7, 3) := by decide +kernel
theorem dX12_at_64 : decode cX12_at 64 = .ok (.iconst 1, 1) := by decide +kernel
theorem dX12_at_65 : decode cX12_at 65 = .ok (.goto 4, 3) := by decide +kernel
theorem dX12_at_68 : decode cX12_at 68 = .ok (.iconst 0, 1) := by decide +kernel
theorem dX12_at_69 : decode cX12_at 69 = .ok (.ireturn, 1) := by decide +kernel
theorem dX12_heed_0 : decode cX12_heed 0 = .ok (.aload_n 0, 1) := by decide +kernel
theorem dX12_heed_1 : decode cX12_heed 1 = .ok (.iload_n 1, 1) := by decide +kernel
theorem dX12_heed_2 : decode cX12_heed 2 = .ok (.invokevirtual 141, 3) := by decide +kernel
theorem dX12_heed_5 : decode cX12_heed 5 = .ok (.ifCond .eq 20, 3) := by decide +kernel
theorem dX12_heed_8 : decode cX12_heed 8 = .ok (.aload_n 0, 1) := by decide +kernel
theorem dX12_heed_9 : decode cX12_heed 9 = .ok (.iload_n 2, 1) := by decide +kernel
theorem dX12_heed_10 : decode cX12_heed 10 = .ok (.invokevirtual 105, 3) := by decide +kernel
theorem dX12_heed_13 : decode cX12_heed 13 = .ok (.ifCond .eq 12, 3) := by decide +kernel
theorem dX12_heed_16 : decode cX12_heed 16 = .ok (.aload_n 0, 1) := by decide +kernel
theorem dX12_heed_17 : decode cX12_heed 17 = .ok (.iload_n 1, 1) := by decide +kernel
theorem dX12_heed_18 : decode cX12_heed 18 = .ok (.iload_n 2, 1) := by decide +kernel
theorem dX12_heed_19 : decode cX12_heed 19 = .ok (.invokevirtual 151, 3) := by decide +kernel
theorem dX12_heed_22 : decode cX12_heed 22 = .ok (.goto 5, 3) := by decide +kernel
theorem dX12_heed_25 : decode cX12_heed 25 = .ok (.ldc 78, 2) := by decide +kernel
theorem dX12_heed_27 : decode cX12_heed 27 = .ok (.ireturn, 1) := by decide +kernel
theorem dX12_bestFor_0 : decode cX12_bestFor 0 = .ok (.iconst (-1), 1) := by decide +kernel
theorem dX12_bestFor_1 : decode cX12_bestFor 1 = .ok (.istore_n 3, 1) := by decide +kernel
theorem dX12_bestFor_2 : decode cX12_bestFor 2 = .ok (.iconst 0, 1) := by decide +kernel
theorem dX12_bestFor_3 : decode cX12_bestFor 3 = .ok (.istore 4, 2) := by decide +kernel
theorem dX12_bestFor_5 : decode cX12_bestFor 5 = .ok (.iconst 0, 1) := by decide +kernel
theorem dX12_bestFor_6 : decode cX12_bestFor 6 = .ok (.istore 5, 2) := by decide +kernel
theorem dX12_bestFor_8 : decode cX12_bestFor 8 = .ok (.iload 5, 2) := by decide +kernel
theorem dX12_bestFor_10 : decode cX12_bestFor 10 = .ok (.aload_n 0, 1) := by decide +kernel
theorem dX12_bestFor_11 : decode cX12_bestFor 11 = .ok (.getfield 9, 3) := by decide +kernel
theorem dX12_bestFor_14 : decode cX12_bestFor 14 = .ok (.iconst 2, 1) := by decide +kernel
theorem dX12_bestFor_15 : decode cX12_bestFor 15 = .ok (.iaload, 1) := by decide +kernel
theorem dX12_bestFor_16 : decode cX12_bestFor 16 = .ok (.if_icmp .ge 75, 3) := by decide +kernel
theorem dX12_bestFor_19 : decode cX12_bestFor 19 = .ok (.aload_n 0, 1) := by decide +kernel
theorem dX12_bestFor_20 : decode cX12_bestFor 20 = .ok (.iload_n 1, 1) := by decide +kernel
theorem dX12_bestFor_21 : decode cX12_bestFor 21 = .ok (.iload 5, 2) := by decide +kernel
theorem dX12_bestFor_23 : decode cX12_bestFor 23 = .ok (.invokevirtual 161, 3) := by decide +kernel
theorem dX12_bestFor_26 : decode cX12_bestFor 26 = .ok (.ifCond .ne 59, 3) := by decide +kernel
theorem dX12_bestFor_29 : decode cX12_bestFor 29 = .ok (.iload_n 2, 1) := by decide +kernel
theorem dX12_bestFor_30 : decode cX12_bestFor 30 = .ok (.ifCond .eq 13, 3) := by decide +kernel
theorem dX12_bestFor_33 : decode cX12_bestFor 33 = .ok (.aload_n 0, 1) := by decide +kernel
theorem dX12_bestFor_34 : decode cX12_bestFor 34 = .ok (.iload 5, 2) := by decide +kernel
theorem dX12_bestFor_36 : decode cX12_bestFor 36 = .ok (.iconst 1, 1) := by decide +kernel
theorem dX12_bestFor_37 : decode cX12_bestFor 37 = .ok (.invokevirtual 84, 3) := by decide +kernel
theorem dX12_bestFor_40 : decode cX12_bestFor 40 = .ok (.goto 10, 3) := by decide +kernel
theorem dX12_bestFor_43 : decode cX12_bestFor 43 = .ok (.aload_n 0, 1) := by decide +kernel
theorem dX12_bestFor_44 : decode cX12_bestFor 44 = .ok (.iload_n 1, 1) := by decide +kernel
theorem dX12_bestFor_45 : decode cX12_bestFor 45 = .ok (.iload 5, 2) := by decide +kernel
theorem dX12_bestFor_47 : decode cX12_bestFor 47 = .ok (.invokevirtual 158, 3) := by decide +kernel
theorem dX12_bestFor_50 : decode cX12_bestFor 50 = .ok (.istore 6, 2) := by decide +kernel
theorem dX12_bestFor_52 : decode cX12_bestFor 52 = .ok (.iload_n 3, 1) := by decide +kernel
theorem dX12_bestFor_53 : decode cX12_bestFor 53 = .ok (.ifCond .lt 10, 3) := by decide +kernel
theorem dX12_bestFor_56 : decode cX12_bestFor 56 = .ok (.iload 6, 2) := by decide +kernel
theorem dX12_bestFor_58 : decode cX12_bestFor 58 = .ok (.iload 4, 2) := by decide +kernel
theorem dX12_bestFor_60 : decode cX12_bestFor 60 = .ok (.if_icmp .le 8, 3) := by decide +kernel
theorem dX12_bestFor_63 : decode cX12_bestFor 63 = .ok (.iload 5, 2) := by decide +kernel
theorem dX12_bestFor_65 : decode cX12_bestFor 65 = .ok (.goto 4, 3) := by decide +kernel
theorem dX12_bestFor_68 : decode cX12_bestFor 68 = .ok (.iload_n 3, 1) := by decide +kernel
theorem dX12_bestFor_69 : decode cX12_bestFor 69 = .ok (.istore_n 3, 1) := by decide +kernel
theorem dX12_bestFor_70 : decode cX12_bestFor 70 = .ok (.iload_n 3, 1) := by decide +kernel
theorem dX12_bestFor_71 : decode cX12_bestFor 71 = .ok (.iload 5, 2) := by decide +kernel
theorem dX12_bestFor_73 : decode cX12_bestFor 73 = .ok (.if_icmp .ne 8, 3) := by decide +kernel
theorem dX12_bestFor_76 : decode cX12_bestFor 76 = .ok (.iload 6, 2) := by decide +kernel
theorem dX12_bestFor_78 : decode cX12_bestFor 78 = .ok (.goto 5, 3) := by decide +kernel
theorem dX12_bestFor_81 : decode cX12_bestFor 81 = .ok (.iload 4, 2) := by decide +kernel
theorem dX12_bestFor_83 : decode cX12_bestFor 83 = .ok (.istore 4, 2) := by decide +kernel
theorem dX12_bestFor_85 : decode cX12_bestFor 85 = .ok (.iinc 5 1, 3) := by decide +kernel
theorem dX12_bestFor_88 : decode cX12_bestFor 88 = .ok (.goto (-80), 3) := by decide +kernel
theorem dX12_bestFor_91 : decode cX12_bestFor 91 = .ok (.iload_n 3, 1) := by decide +kernel
theorem dX12_bestFor_92 : decode cX12_bestFor 92 = .ok (.ireturn, 1) := by decide +kernel
theorem dX12_choiceOf_0 : decode cX12_choiceOf 0 = .ok (.aload_n 0, 1) := by decide +kernel
theorem dX12_choiceOf_1 : decode cX12_choiceOf 1 = .ok (.iload_n 1, 1) := by decide +kernel
theorem dX12_choiceOf_2 : decode cX12_choiceOf 2 = .ok (.invokevirtual 138, 3) := by decide +kernel
theorem dX12_choiceOf_5 : decode cX12_choiceOf 5 = .ok (.istore_n 2, 1) := by decide +kernel
theorem dX12_choiceOf_6 : decode cX12_choiceOf 6 = .ok (.aload_n 0, 1) := by decide +kernel
theorem dX12_choiceOf_7 : decode cX12_choiceOf 7 = .ok (.iload_n 1, 1) := by decide +kernel
theorem dX12_choiceOf_8 : decode cX12_choiceOf 8 = .ok (.iload_n 2, 1) := by decide +kernel
theorem dX12_choiceOf_9 : decode cX12_choiceOf 9 = .ok (.iconst 1, 1) := by decide +kernel
theorem dX12_choiceOf_10 : decode cX12_choiceOf 10 = .ok (.if_icmp .eq 12, 3) := by decide +kernel
theorem dX12_choiceOf_13 : decode cX12_choiceOf 13 = .ok (.iload_n 2, 1) := by decide +kernel
theorem dX12_choiceOf_14 : decode cX12_choiceOf 14 = .ok (.iconst 3, 1) := by decide +kernel
theorem dX12_choiceOf_15 : decode cX12_choiceOf 15 = .ok (.if_icmp .eq 7, 3) := by decide +kernel
theorem dX12_choiceOf_18 : decode cX12_choiceOf 18 = .ok (.iconst 1, 1) := by decide +kernel
theorem dX12_choiceOf_19 : decode cX12_choiceOf 19 = .ok (.goto 4, 3) := by decide +kernel
theorem dX12_choiceOf_22 : decode cX12_choiceOf 22 = .ok (.iconst 0, 1) := by decide +kernel
theorem dX12_choiceOf_23 : decode cX12_choiceOf 23 = .ok (.invokevirtual 164, 3) := by decide +kernel
theorem dX12_choiceOf_26 : decode cX12_choiceOf 26 = .ok (.istore_n 3, 1) := by decide +kernel
theorem dX12_choiceOf_27 : decode cX12_choiceOf 27 = .ok (.iload_n 3, 1) := by decide +kernel
theorem dX12_choiceOf_28 : decode cX12_choiceOf 28 = .ok (.ifCond .lt 18, 3) := by decide +kernel
theorem dX12_choiceOf_31 : decode cX12_choiceOf 31 = .ok (.iload_n 2, 1) := by decide +kernel
theorem dX12_choiceOf_32 : decode cX12_choiceOf 32 = .ok (.iconst 1, 1) := by decide +kernel
theorem dX12_choiceOf_33 : decode cX12_choiceOf 33 = .ok (.if_icmp .eq 13, 3) := by decide +kernel
theorem dX12_choiceOf_36 : decode cX12_choiceOf 36 = .ok (.iload_n 2, 1) := by decide +kernel
theorem dX12_choiceOf_37 : decode cX12_choiceOf 37 = .ok (.iconst 3, 1) := by decide +kernel
theorem dX12_choiceOf_38 : decode cX12_choiceOf 38 = .ok (.if_icmp .eq 8, 3) := by decide +kernel
theorem dX12_choiceOf_41 : decode cX12_choiceOf 41 = .ok (.iload_n 2, 1) := by decide +kernel
theorem dX12_choiceOf_42 : decode cX12_choiceOf 42 = .ok (.iconst 4, 1) := by decide +kernel
theorem dX12_choiceOf_43 : decode cX12_choiceOf 43 = .ok (.if_icmp .ne 5, 3) := by decide +kernel
theorem dX12_choiceOf_46 : decode cX12_choiceOf 46 = .ok (.iload_n 3, 1) := by decide +kernel
theorem dX12_choiceOf_47 : decode cX12_choiceOf 47 = .ok (.ireturn, 1) := by decide +kernel
theorem dX12_choiceOf_48 : decode cX12_choiceOf 48 = .ok (.aload_n 0, 1) := by decide +kernel
theorem dX12_choiceOf_49 : decode cX12_choiceOf 49 = .ok (.invokevirtual 119, 3) := by decide +kernel
theorem dX12_choiceOf_52 : decode cX12_choiceOf 52 = .ok (.aload_n 0, 1) := by decide +kernel
theorem dX12_choiceOf_53 : decode cX12_choiceOf 53 = .ok (.getfield 9, 3) := by decide +kernel
theorem dX12_choiceOf_56 : decode cX12_choiceOf 56 = .ok (.iconst 2, 1) := by decide +kernel
theorem dX12_choiceOf_57 : decode cX12_choiceOf 57 = .ok (.iaload, 1) := by decide +kernel
theorem dX12_choiceOf_58 : decode cX12_choiceOf 58 = .ok (.irem, 1) := by decide +kernel
theorem dX12_choiceOf_59 : decode cX12_choiceOf 59 = .ok (.istore 4, 2) := by decide +kernel
theorem dX12_choiceOf_61 : decode cX12_choiceOf 61 = .ok (.aload_n 0, 1) := by decide +kernel
theorem dX12_choiceOf_62 : decode cX12_choiceOf 62 = .ok (.iload_n 1, 1) := by decide +kernel
theorem dX12_choiceOf_63 : decode cX12_choiceOf 63 = .ok (.iload 4, 2) := by decide +kernel
theorem dX12_choiceOf_65 : decode cX12_choiceOf 65 = .ok (.invokevirtual 161, 3) := by decide +kernel
theorem dX12_choiceOf_68 : decode cX12_choiceOf 68 = .ok (.ifCond .eq 19, 3) := by decide +kernel
theorem dX12_choiceOf_71 : decode cX12_choiceOf 71 = .ok (.iload 4, 2) := by decide +kernel
theorem dX12_choiceOf_73 : decode cX12_choiceOf 73 = .ok (.iconst 1, 1) := by decide +kernel
theorem dX12_choiceOf_74 : decode cX12_choiceOf 74 = .ok (.iadd, 1) := by decide +kernel
theorem dX12_choiceOf_75 : decode cX12_choiceOf 75 = .ok (.aload_n 0, 1) := by decide +kernel
theorem dX12_choiceOf_76 : decode cX12_choiceOf 76 = .ok (.getfield 9, 3) := by decide +kernel
theorem dX12_choiceOf_79 : decode cX12_choiceOf 79 = .ok (.iconst 2, 1) := by decide +kernel
theorem dX12_choiceOf_80 : decode cX12_choiceOf 80 = .ok (.iaload, 1) := by decide +kernel
theorem dX12_choiceOf_81 : decode cX12_choiceOf 81 = .ok (.irem, 1) := by decide +kernel
theorem dX12_choiceOf_82 : decode cX12_choiceOf 82 = .ok (.istore 4, 2) := by decide +kernel
theorem dX12_choiceOf_84 : decode cX12_choiceOf 84 = .ok (.goto (-23), 3) := by decide +kernel
theorem dX12_choiceOf_87 : decode cX12_choiceOf 87 = .ok (.iload 4, 2) := by decide +kernel
theorem dX12_choiceOf_89 : decode cX12_choiceOf 89 = .ok (.ireturn, 1) := by decide +kernel
theorem dX12_choice_0 : decode cX12_choice 0 = .ok (.aload_n 0, 1) := by decide +kernel
theorem dX12_choice_1 : decode cX12_choice 1 = .ok (.iload_n 1, 1) := by decide +kernel
theorem dX12_choice_2 : decode cX12_choice 2 = .ok (.invokevirtual 141, 3) := by decide +kernel
theorem dX12_choice_5 : decode cX12_choice 5 = .ok (.ifCond .eq 14, 3) := by decide +kernel
theorem dX12_choice_8 : decode cX12_choice 8 = .ok (.aload_n 0, 1) := by decide +kernel
theorem dX12_choice_9 : decode cX12_choice 9 = .ok (.iload_n 1, 1) := by decide +kernel
theorem dX12_choice_10 : decode cX12_choice 10 = .ok (.invokevirtual 168, 3) := by decide +kernel
theorem dX12_choice_13 : decode cX12_choice 13 = .ok (.invokestatic 132, 3) := by decide +kernel
theorem dX12_choice_16 : decode cX12_choice 16 = .ok (.goto 5, 3) := by decide +kernel
theorem dX12_choice_19 : decode cX12_choice 19 = .ok (.ldc 78, 2) := by decide +kernel
theorem dX12_choice_21 : decode cX12_choice 21 = .ok (.ireturn, 1) := by decide +kernel
theorem dX12_night_0 : decode cX12_night 0 = .ok (.iconst 0, 1) := by decide +kernel
theorem dX12_night_1 : decode cX12_night 1 = .ok (.istore_n 1, 1) := by decide +kernel
theorem dX12_night_2 : decode cX12_night 2 = .ok (.iload_n 1, 1) := by decide +kernel
theorem dX12_night_3 : decode cX12_night 3 = .ok (.aload_n 0, 1) := by decide +kernel
theorem dX12_night_4 : decode cX12_night 4 = .ok (.getfield 9, 3) := by decide +kernel
theorem dX12_night_7 : decode cX12_night 7 = .ok (.iconst 3, 1) := by decide +kernel
theorem dX12_night_8 : decode cX12_night 8 = .ok (.iaload, 1) := by decide +kernel
theorem dX12_night_9 : decode cX12_night 9 = .ok (.if_icmp .ge 83, 3) := by decide +kernel
theorem dX12_night_12 : decode cX12_night 12 = .ok (.aload_n 0, 1) := by decide +kernel
theorem dX12_night_13 : decode cX12_night 13 = .ok (.iload_n 1, 1) := by decide +kernel
theorem dX12_night_14 : decode cX12_night 14 = .ok (.invokevirtual 168, 3) := by decide +kernel
theorem dX12_night_17 : decode cX12_night 17 = .ok (.istore_n 2, 1) := by decide +kernel
theorem dX12_night_18 : decode cX12_night 18 = .ok (.iload_n 2, 1) := by decide +kernel
theorem dX12_night_19 : decode cX12_night 19 = .ok (.ifCond .lt 67, 3) := by decide +kernel
theorem dX12_night_22 : decode cX12_night 22 = .ok (.aload_n 0, 1) := by decide +kernel
theorem dX12_night_23 : decode cX12_night 23 = .ok (.invokevirtual 119, 3) := by decide +kernel
theorem dX12_night_26 : decode cX12_night 26 = .ok (.sipush 10000, 3) := by decide +kernel
theorem dX12_night_29 : decode cX12_night 29 = .ok (.irem, 1) := by decide +kernel
theorem dX12_night_30 : decode cX12_night 30 = .ok (.aload_n 0, 1) := by decide +kernel
theorem dX12_night_31 : decode cX12_night 31 = .ok (.iload_n 1, 1) := by decide +kernel
theorem dX12_night_32 : decode cX12_night 32 = .ok (.iload_n 2, 1) := by decide +kernel
theorem dX12_night_33 : decode cX12_night 33 = .ok (.invokevirtual 154, 3) := by decide +kernel
theorem dX12_night_36 : decode cX12_night 36 = .ok (.if_icmp .ge 7, 3) := by decide +kernel
theorem dX12_night_39 : decode cX12_night 39 = .ok (.iconst 1, 1) := by decide +kernel
theorem dX12_night_40 : decode cX12_night 40 = .ok (.goto 4, 3) := by decide +kernel
theorem dX12_night_43 : decode cX12_night 43 = .ok (.iconst 0, 1) := by decide +kernel
theorem dX12_night_44 : decode cX12_night 44 = .ok (.istore_n 3, 1) := by decide +kernel
theorem dX12_night_45 : decode cX12_night 45 = .ok (.aload_n 0, 1) := by decide +kernel
theorem dX12_night_46 : decode cX12_night 46 = .ok (.getfield 9, 3) := by decide +kernel
theorem dX12_night_49 : decode cX12_night 49 = .ok (.iconst 4, 1) := by decide +kernel
theorem dX12_night_50 : decode cX12_night 50 = .ok (.dup2, 1) := by decide +kernel
theorem dX12_night_51 : decode cX12_night 51 = .ok (.iaload, 1) := by decide +kernel
theorem dX12_night_52 : decode cX12_night 52 = .ok (.iload_n 3, 1) := by decide +kernel
theorem dX12_night_53 : decode cX12_night 53 = .ok (.ifCond .eq 12, 3) := by decide +kernel
theorem dX12_night_56 : decode cX12_night 56 = .ok (.aload_n 0, 1) := by decide +kernel
theorem dX12_night_57 : decode cX12_night 57 = .ok (.iload_n 2, 1) := by decide +kernel
theorem dX12_night_58 : decode cX12_night 58 = .ok (.iconst 1, 1) := by decide +kernel
theorem dX12_night_59 : decode cX12_night 59 = .ok (.invokevirtual 84, 3) := by decide +kernel
theorem dX12_night_62 : decode cX12_night 62 = .ok (.goto 4, 3) := by decide +kernel
theorem dX12_night_65 : decode cX12_night 65 = .ok (.iconst 0, 1) := by decide +kernel
theorem dX12_night_66 : decode cX12_night 66 = .ok (.iadd, 1) := by decide +kernel
theorem dX12_night_67 : decode cX12_night 67 = .ok (.iastore, 1) := by decide +kernel
theorem dX12_night_68 : decode cX12_night 68 = .ok (.aload_n 0, 1) := by decide +kernel
theorem dX12_night_69 : decode cX12_night 69 = .ok (.getfield 9, 3) := by decide +kernel
theorem dX12_night_72 : decode cX12_night 72 = .ok (.iconst 5, 1) := by decide +kernel
theorem dX12_night_73 : decode cX12_night 73 = .ok (.dup2, 1) := by decide +kernel
theorem dX12_night_74 : decode cX12_night 74 = .ok (.iaload, 1) := by decide +kernel
theorem dX12_night_75 : decode cX12_night 75 = .ok (.iload_n 3, 1) := by decide +kernel
theorem dX12_night_76 : decode cX12_night 76 = .ok (.ifCond .eq 7, 3) := by decide +kernel
theorem dX12_night_79 : decode cX12_night 79 = .ok (.iconst 0, 1) := by decide +kernel
theorem dX12_night_80 : decode cX12_night 80 = .ok (.goto 4, 3) := by decide +kernel
theorem dX12_night_83 : decode cX12_night 83 = .ok (.iconst 1, 1) := by decide +kernel
theorem dX12_night_84 : decode cX12_night 84 = .ok (.iadd, 1) := by decide +kernel
theorem dX12_night_85 : decode cX12_night 85 = .ok (.iastore, 1) := by decide +kernel
theorem dX12_night_86 : decode cX12_night 86 = .ok (.iinc 1 1, 3) := by decide +kernel
theorem dX12_night_89 : decode cX12_night 89 = .ok (.goto (-87), 3) := by decide +kernel
theorem dX12_night_92 : decode cX12_night 92 = .ok (.return_, 1) := by decide +kernel
theorem dX12_nights_0 : decode cX12_nights 0 = .ok (.iload_n 1, 1) := by decide +kernel
theorem dX12_nights_1 : decode cX12_nights 1 = .ok (.iconst 1, 1) := by decide +kernel
theorem dX12_nights_2 : decode cX12_nights 2 = .ok (.bipush 60, 2) := by decide +kernel
theorem dX12_nights_4 : decode cX12_nights 4 = .ok (.invokestatic 73, 3) := by decide +kernel
theorem dX12_nights_7 : decode cX12_nights 7 = .ok (.ifCond .ne 6, 3) := by decide +kernel
theorem dX12_nights_10 : decode cX12_nights 10 = .ok (.ldc 78, 2) := by decide +kernel
theorem dX12_nights_12 : decode cX12_nights 12 = .ok (.ireturn, 1) := by decide +kernel
theorem dX12_nights_13 : decode cX12_nights 13 = .ok (.iconst 0, 1) := by decide +kernel
theorem dX12_nights_14 : decode cX12_nights 14 = .ok (.istore_n 2, 1) := by decide +kernel
theorem dX12_nights_15 : decode cX12_nights 15 = .ok (.iload_n 2, 1) := by decide +kernel
theorem dX12_nights_16 : decode cX12_nights 16 = .ok (.iload_n 1, 1) := by decide +kernel
theorem dX12_nights_17 : decode cX12_nights 17 = .ok (.if_icmp .ge 13, 3) := by decide +kernel
theorem dX12_nights_20 : decode cX12_nights 20 = .ok (.aload_n 0, 1) := by decide +kernel
theorem dX12_nights_21 : decode cX12_nights 21 = .ok (.invokevirtual 171, 3) := by decide +kernel
theorem dX12_nights_24 : decode cX12_nights 24 = .ok (.iinc 2 1, 3) := by decide +kernel
theorem dX12_nights_27 : decode cX12_nights 27 = .ok (.goto (-12), 3) := by decide +kernel
theorem dX12_nights_30 : decode cX12_nights 30 = .ok (.aload_n 0, 1) := by decide +kernel
theorem dX12_nights_31 : decode cX12_nights 31 = .ok (.getfield 9, 3) := by decide +kernel
theorem dX12_nights_34 : decode cX12_nights 34 = .ok (.iconst 4, 1) := by decide +kernel
theorem dX12_nights_35 : decode cX12_nights 35 = .ok (.iaload, 1) := by decide +kernel
theorem dX12_nights_36 : decode cX12_nights 36 = .ok (.ireturn, 1) := by decide +kernel
theorem dX12_seed_0 : decode cX12_seed 0 = .ok (.aload_n 0, 1) := by decide +kernel
theorem dX12_seed_1 : decode cX12_seed 1 = .ok (.getfield 9, 3) := by decide +kernel
theorem dX12_seed_4 : decode cX12_seed 4 = .ok (.iconst 0, 1) := by decide +kernel
theorem dX12_seed_5 : decode cX12_seed 5 = .ok (.iaload, 1) := by decide +kernel
theorem dX12_seed_6 : decode cX12_seed 6 = .ok (.istore_n 2, 1) := by decide +kernel
theorem dX12_seed_7 : decode cX12_seed 7 = .ok (.aload_n 0, 1) := by decide +kernel
theorem dX12_seed_8 : decode cX12_seed 8 = .ok (.getfield 9, 3) := by decide +kernel
theorem dX12_seed_11 : decode cX12_seed 11 = .ok (.iconst 0, 1) := by decide +kernel
theorem dX12_seed_12 : decode cX12_seed 12 = .ok (.iload_n 1, 1) := by decide +kernel
theorem dX12_seed_13 : decode cX12_seed 13 = .ok (.iastore, 1) := by decide +kernel
theorem dX12_seed_14 : decode cX12_seed 14 = .ok (.iload_n 2, 1) := by decide +kernel
theorem dX12_seed_15 : decode cX12_seed 15 = .ok (.ireturn, 1) := by decide +kernel
theorem dX12_pairOf_0 : decode cX12_pairOf 0 = .ok (.iconst (-1), 1) := by decide +kernel
theorem dX12_pairOf_1 : decode cX12_pairOf 1 = .ok (.istore_n 2, 1) := by decide +kernel
theorem dX12_pairOf_2 : decode cX12_pairOf 2 = .ok (.iconst 0, 1) := by decide +kernel
theorem dX12_pairOf_3 : decode cX12_pairOf 3 = .ok (.istore_n 3, 1) := by decide +kernel
theorem dX12_pairOf_4 : decode cX12_pairOf 4 = .ok (.iconst 0, 1) := by decide +kernel
theorem dX12_pairOf_5 : decode cX12_pairOf 5 = .ok (.istore 4, 2) := by decide +kernel
theorem dX12_pairOf_7 : decode cX12_pairOf 7 = .ok (.iload 4, 2) := by decide +kernel
theorem dX12_pairOf_9 : decode cX12_pairOf 9 = .ok (.aload_n 0, 1) := by decide +kernel
theorem dX12_pairOf_10 : decode cX12_pairOf 10 = .ok (.getfield 9, 3) := by decide +kernel
theorem dX12_pairOf_13 : decode cX12_pairOf 13 = .ok (.iconst 1, 1) := by decide +kernel
theorem dX12_pairOf_14 : decode cX12_pairOf 14 = .ok (.iaload, 1) := by decide +kernel
theorem dX12_pairOf_15 : decode cX12_pairOf 15 = .ok (.if_icmp .ge 85, 3) := by decide +kernel
theorem dX12_pairOf_18 : decode cX12_pairOf 18 = .ok (.iload 4, 2) := by decide +kernel
theorem dX12_pairOf_20 : decode cX12_pairOf 20 = .ok (.iconst 1, 1) := by decide +kernel
theorem dX12_pairOf_21 : decode cX12_pairOf 21 = .ok (.iadd, 1) := by decide +kernel
theorem dX12_pairOf_22 : decode cX12_pairOf 22 = .ok (.istore 5, 2) := by decide +kernel
theorem dX12_pairOf_24 : decode cX12_pairOf 24 = .ok (.iload 5, 2) := by decide +kernel
theorem dX12_pairOf_26 : decode cX12_pairOf 26 = .ok (.aload_n 0, 1) := by decide +kernel
theorem dX12_pairOf_27 : decode cX12_pairOf 27 = .ok (.getfield 9, 3) := by decide +kernel
theorem dX12_pairOf_30 : decode cX12_pairOf 30 = .ok (.iconst 1, 1) := by decide +kernel
theorem dX12_pairOf_31 : decode cX12_pairOf 31 = .ok (.iaload, 1) := by decide +kernel
theorem dX12_pairOf_32 : decode cX12_pairOf 32 = .ok (.if_icmp .ge 62, 3) := by decide +kernel
theorem dX12_pairOf_35 : decode cX12_pairOf 35 = .ok (.aload_n 0, 1) := by decide +kernel
theorem dX12_pairOf_36 : decode cX12_pairOf 36 = .ok (.iload 4, 2) := by decide +kernel
theorem dX12_pairOf_38 : decode cX12_pairOf 38 = .ok (.iload_n 1, 1) := by decide +kernel
theorem dX12_pairOf_39 : decode cX12_pairOf 39 = .ok (.iconst 0, 1) := by decide +kernel
theorem dX12_pairOf_40 : decode cX12_pairOf 40 = .ok (.invokevirtual 87, 3) := by decide +kernel
theorem dX12_pairOf_43 : decode cX12_pairOf 43 = .ok (.aload_n 0, 1) := by decide +kernel
theorem dX12_pairOf_44 : decode cX12_pairOf 44 = .ok (.iload 5, 2) := by decide +kernel
theorem dX12_pairOf_46 : decode cX12_pairOf 46 = .ok (.iload_n 1, 1) := by decide +kernel
theorem dX12_pairOf_47 : decode cX12_pairOf 47 = .ok (.iconst 0, 1) := by decide +kernel
theorem dX12_pairOf_48 : decode cX12_pairOf 48 = .ok (.invokevirtual 87, 3) := by decide +kernel
theorem dX12_pairOf_51 : decode cX12_pairOf 51 = .ok (.iadd, 1) := by decide +kernel
theorem dX12_pairOf_52 : decode cX12_pairOf 52 = .ok (.istore 6, 2) := by decide +kernel
theorem dX12_pairOf_54 : decode cX12_pairOf 54 = .ok (.iload_n 2, 1) := by decide +kernel
theorem dX12_pairOf_55 : decode cX12_pairOf 55 = .ok (.ifCond .lt 9, 3) := by decide +kernel
theorem dX12_pairOf_58 : decode cX12_pairOf 58 = .ok (.iload 6, 2) := by decide +kernel
theorem dX12_pairOf_60 : decode cX12_pairOf 60 = .ok (.iload_n 3, 1) := by decide +kernel
theorem dX12_pairOf_61 : decode cX12_pairOf 61 = .ok (.if_icmp .ge 27, 3) := by decide +kernel
theorem dX12_pairOf_64 : decode cX12_pairOf 64 = .ok (.aload_n 0, 1) := by decide +kernel
theorem dX12_pairOf_65 : decode cX12_pairOf 65 = .ok (.iload_n 1, 1) := by decide +kernel
theorem dX12_pairOf_66 : decode cX12_pairOf 66 = .ok (.iload 4, 2) := by decide +kernel
theorem dX12_pairOf_68 : decode cX12_pairOf 68 = .ok (.iload 5, 2) := by decide +kernel
theorem dX12_pairOf_70 : decode cX12_pairOf 70 = .ok (.invokevirtual 123, 3) := by decide +kernel
theorem dX12_pairOf_73 : decode cX12_pairOf 73 = .ok (.ifCond .eq 15, 3) := by decide +kernel
theorem dX12_pairOf_76 : decode cX12_pairOf 76 = .ok (.bipush 100, 2) := by decide +kernel
theorem dX12_pairOf_78 : decode cX12_pairOf 78 = .ok (.iload 4, 2) := by decide +kernel
theorem dX12_pairOf_80 : decode cX12_pairOf 80 = .ok (.imul, 1) := by decide +kernel
theorem dX12_pairOf_81 : decode cX12_pairOf 81 = .ok (.iload 5, 2) := by decide +kernel
theorem dX12_pairOf_83 : decode cX12_pairOf 83 = .ok (.iadd, 1) := by decide +kernel
theorem dX12_pairOf_84 : decode cX12_pairOf 84 = .ok (.istore_n 2, 1) := by decide +kernel
theorem dX12_pairOf_85 : decode cX12_pairOf 85 = .ok (.iload 6, 2) := by decide +kernel
theorem dX12_pairOf_87 : decode cX12_pairOf 87 = .ok (.istore_n 3, 1) := by decide +kernel
theorem dX12_pairOf_88 : decode cX12_pairOf 88 = .ok (.iinc 5 1, 3) := by decide +kernel
theorem dX12_pairOf_91 : decode cX12_pairOf 91 = .ok (.goto (-67), 3) := by decide +kernel
theorem dX12_pairOf_94 : decode cX12_pairOf 94 = .ok (.iinc 4 1, 3) := by decide +kernel
theorem dX12_pairOf_97 : decode cX12_pairOf 97 = .ok (.goto (-90), 3) := by decide +kernel
theorem dX12_pairOf_100 : decode cX12_pairOf 100 = .ok (.iload_n 2, 1) := by decide +kernel
theorem dX12_pairOf_101 : decode cX12_pairOf 101 = .ok (.ireturn, 1) := by decide +kernel
theorem dX12_pair_0 : decode cX12_pair 0 = .ok (.aload_n 0, 1) := by decide +kernel
theorem dX12_pair_1 : decode cX12_pair 1 = .ok (.iload_n 1, 1) := by decide +kernel
theorem dX12_pair_2 : decode cX12_pair 2 = .ok (.invokevirtual 126, 3) := by decide +kernel
theorem dX12_pair_5 : decode cX12_pair 5 = .ok (.ifCond .eq 14, 3) := by decide +kernel
theorem dX12_pair_8 : decode cX12_pair 8 = .ok (.aload_n 0, 1) := by decide +kernel
theorem dX12_pair_9 : decode cX12_pair 9 = .ok (.iload_n 1, 1) := by decide +kernel
theorem dX12_pair_10 : decode cX12_pair 10 = .ok (.invokevirtual 174, 3) := by decide +kernel
theorem dX12_pair_13 : decode cX12_pair 13 = .ok (.invokestatic 132, 3) := by decide +kernel
theorem dX12_pair_16 : decode cX12_pair 16 = .ok (.goto 5, 3) := by decide +kernel
theorem dX12_pair_19 : decode cX12_pair 19 = .ok (.ldc 78, 2) := by decide +kernel
theorem dX12_pair_21 : decode cX12_pair 21 = .ok (.ireturn, 1) := by decide +kernel
theorem dX12_unlawfulMany_0 : decode cX12_unlawfulMany 0 = .ok (.iconst 0, 1) := by decide +kernel
theorem dX12_unlawfulMany_1 : decode cX12_unlawfulMany 1 = .ok (.istore_n 1, 1) := by decide +kernel
theorem dX12_unlawfulMany_2 : decode cX12_unlawfulMany 2 = .ok (.iconst 0, 1) := by decide +kernel
theorem dX12_unlawfulMany_3 : decode cX12_unlawfulMany 3 = .ok (.istore_n 2, 1) := by decide +kernel
theorem dX12_unlawfulMany_4 : decode cX12_unlawfulMany 4 = .ok (.iload_n 2, 1) := by decide +kernel
theorem dX12_unlawfulMany_5 : decode cX12_unlawfulMany 5 = .ok (.aload_n 0, 1) := by decide +kernel
theorem dX12_unlawfulMany_6 : decode cX12_unlawfulMany 6 = .ok (.getfield 9, 3) := by decide +kernel
theorem dX12_unlawfulMany_9 : decode cX12_unlawfulMany 9 = .ok (.iconst 2, 1) := by decide +kernel
theorem dX12_unlawfulMany_10 : decode cX12_unlawfulMany 10 = .ok (.iaload, 1) := by decide +kernel
theorem dX12_unlawfulMany_11 : decode cX12_unlawfulMany 11 = .ok (.if_icmp .ge 25, 3) := by decide +kernel
theorem dX12_unlawfulMany_14 : decode cX12_unlawfulMany 14 = .ok (.iload_n 1, 1) := by decide +kernel
theorem dX12_unlawfulMany_15 : decode cX12_unlawfulMany 15 = .ok (.aload_n 0, 1) := by decide +kernel
theorem dX12_unlawfulMany_16 : decode cX12_unlawfulMany 16 = .ok (.iload_n 2, 1) := by decide +kernel
theorem dX12_unlawfulMany_17 : decode cX12_unlawfulMany 17 = .ok (.invokevirtual 129, 3) := by decide +kernel
theorem dX12_unlawfulMany_20 : decode cX12_unlawfulMany 20 = .ok (.ifCond .eq 7, 3) := by decide +kernel
theorem dX12_unlawfulMany_23 : decode cX12_unlawfulMany 23 = .ok (.iconst 0, 1) := by decide +kernel
theorem dX12_unlawfulMany_24 : decode cX12_unlawfulMany 24 = .ok (.goto 4, 3) := by decide +kernel
theorem dX12_unlawfulMany_27 : decode cX12_unlawfulMany 27 = .ok (.iconst 1, 1) := by decide +kernel
theorem dX12_unlawfulMany_28 : decode cX12_unlawfulMany 28 = .ok (.iadd, 1) := by decide +kernel
theorem dX12_unlawfulMany_29 : decode cX12_unlawfulMany 29 = .ok (.istore_n 1, 1) := by decide +kernel
theorem dX12_unlawfulMany_30 : decode cX12_unlawfulMany 30 = .ok (.iinc 2 1, 3) := by decide +kernel
theorem dX12_unlawfulMany_33 : decode cX12_unlawfulMany 33 = .ok (.goto (-29), 3) := by decide +kernel
theorem dX12_unlawfulMany_36 : decode cX12_unlawfulMany 36 = .ok (.iload_n 1, 1) := by decide +kernel
theorem dX12_unlawfulMany_37 : decode cX12_unlawfulMany 37 = .ok (.ireturn, 1) := by decide +kernel
theorem dX12_wiring_0 : decode cX12_wiring 0 = .ok (.iconst 0, 1) := by decide +kernel
theorem dX12_wiring_1 : decode cX12_wiring 1 = .ok (.istore_n 1, 1) := by decide +kernel
theorem dX12_wiring_2 : decode cX12_wiring 2 = .ok (.iload_n 1, 1) := by decide +kernel
theorem dX12_wiring_3 : decode cX12_wiring 3 = .ok (.aload_n 0, 1) := by decide +kernel
theorem dX12_wiring_4 : decode cX12_wiring 4 = .ok (.getfield 9, 3) := by decide +kernel
theorem dX12_wiring_7 : decode cX12_wiring 7 = .ok (.iconst 2, 1) := by decide +kernel
theorem dX12_wiring_8 : decode cX12_wiring 8 = .ok (.iaload, 1) := by decide +kernel
theorem dX12_wiring_9 : decode cX12_wiring 9 = .ok (.if_icmp .ge 67, 3) := by decide +kernel
theorem dX12_wiring_12 : decode cX12_wiring 12 = .ok (.aload_n 0, 1) := by decide +kernel
theorem dX12_wiring_13 : decode cX12_wiring 13 = .ok (.iload_n 1, 1) := by decide +kernel
theorem dX12_wiring_14 : decode cX12_wiring 14 = .ok (.invokevirtual 174, 3) := by decide +kernel
theorem dX12_wiring_17 : decode cX12_wiring 17 = .ok (.istore_n 2, 1) := by decide +kernel
theorem dX12_wiring_18 : decode cX12_wiring 18 = .ok (.aload_n 0, 1) := by decide +kernel
theorem dX12_wiring_19 : decode cX12_wiring 19 = .ok (.getfield 9, 3) := by decide +kernel
theorem dX12_wiring_22 : decode cX12_wiring 22 = .ok (.bipush 38, 2) := by decide +kernel
theorem dX12_wiring_24 : decode cX12_wiring 24 = .ok (.iconst 5, 1) := by decide +kernel
theorem dX12_wiring_25 : decode cX12_wiring 25 = .ok (.iload_n 1, 1) := by decide +kernel
theorem dX12_wiring_26 : decode cX12_wiring 26 = .ok (.imul, 1) := by decide +kernel
theorem dX12_wiring_27 : decode cX12_wiring 27 = .ok (.iadd, 1) := by decide +kernel
theorem dX12_wiring_28 : decode cX12_wiring 28 = .ok (.iconst 3, 1) := by decide +kernel
theorem dX12_wiring_29 : decode cX12_wiring 29 = .ok (.iadd, 1) := by decide +kernel
theorem dX12_wiring_30 : decode cX12_wiring 30 = .ok (.iload_n 2, 1) := by decide +kernel
theorem dX12_wiring_31 : decode cX12_wiring 31 = .ok (.ifCond .ge 7, 3) := by decide +kernel
theorem dX12_wiring_34 : decode cX12_wiring 34 = .ok (.iconst (-1), 1) := by decide +kernel
theorem dX12_wiring_35 : decode cX12_wiring 35 = .ok (.goto 7, 3) := by decide +kernel
theorem dX12_wiring_38 : decode cX12_wiring 38 = .ok (.iload_n 2, 1) := by decide +kernel
theorem dX12_wiring_39 : decode cX12_wiring 39 = .ok (.bipush 100, 2) := by decide +kernel
theorem dX12_wiring_41 : decode cX12_wiring 41 = .ok (.idiv, 1) := by decide +kernel
theorem dX12_wiring_42 : decode cX12_wiring 42 = .ok (.iastore, 1) := by decide +kernel
theorem dX12_wiring_43 : decode cX12_wiring 43 = .ok (.aload_n 0, 1) := by decide +kernel
theorem dX12_wiring_44 : decode cX12_wiring 44 = .ok (.getfield 9, 3) := by decide +kernel
theorem dX12_wiring_47 : decode cX12_wiring 47 = .ok (.bipush 38, 2) := by decide +kernel
theorem dX12_wiring_49 : decode cX12_wiring 49 = .ok (.iconst 5, 1) := by decide +kernel
theorem dX12_wiring_50 : decode cX12_wiring 50 = .ok (.iload_n 1, 1) := by decide +kernel
theorem dX12_wiring_51 : decode cX12_wiring 51 = .ok (.imul, 1) := by decide +kernel
theorem dX12_wiring_52 : decode cX12_wiring 52 = .ok (.iadd, 1) := by decide +kernel
theorem dX12_wiring_53 : decode cX12_wiring 53 = .ok (.iconst 3, 1) := by decide +kernel
theorem dX12_wiring_54 : decode cX12_wiring 54 = .ok (.iadd, 1) := by decide +kernel
theorem dX12_wiring_55 : decode cX12_wiring 55 = .ok (.iconst 1, 1) := by decide +kernel
theorem dX12_wiring_56 : decode cX12_wiring 56 = .ok (.iadd, 1) := by decide +kernel
theorem dX12_wiring_57 : decode cX12_wiring 57 = .ok (.iload_n 2, 1) := by decide +kernel
theorem dX12_wiring_58 : decode cX12_wiring 58 = .ok (.ifCond .ge 7, 3) := by decide +kernel
theorem dX12_wiring_61 : decode cX12_wiring 61 = .ok (.iconst (-1), 1) := by decide +kernel
theorem dX12_wiring_62 : decode cX12_wiring 62 = .ok (.goto 7, 3) := by decide +kernel
theorem dX12_wiring_65 : decode cX12_wiring 65 = .ok (.iload_n 2, 1) := by decide +kernel
theorem dX12_wiring_66 : decode cX12_wiring 66 = .ok (.bipush 100, 2) := by decide +kernel
theorem dX12_wiring_68 : decode cX12_wiring 68 = .ok (.irem, 1) := by decide +kernel
theorem dX12_wiring_69 : decode cX12_wiring 69 = .ok (.iastore, 1) := by decide +kernel
theorem dX12_wiring_70 : decode cX12_wiring 70 = .ok (.iinc 1 1, 3) := by decide +kernel
theorem dX12_wiring_73 : decode cX12_wiring 73 = .ok (.goto (-71), 3) := by decide +kernel
theorem dX12_wiring_76 : decode cX12_wiring 76 = .ok (.aload_n 0, 1) := by decide +kernel
theorem dX12_wiring_77 : decode cX12_wiring 77 = .ok (.getfield 9, 3) := by decide +kernel
theorem dX12_wiring_80 : decode cX12_wiring 80 = .ok (.iconst 2, 1) := by decide +kernel
theorem dX12_wiring_81 : decode cX12_wiring 81 = .ok (.iaload, 1) := by decide +kernel
theorem dX12_wiring_82 : decode cX12_wiring 82 = .ok (.aload_n 0, 1) := by decide +kernel
theorem dX12_wiring_83 : decode cX12_wiring 83 = .ok (.invokevirtual 177, 3) := by decide +kernel
theorem dX12_wiring_86 : decode cX12_wiring 86 = .ok (.isub, 1) := by decide +kernel
theorem dX12_wiring_87 : decode cX12_wiring 87 = .ok (.ireturn, 1) := by decide +kernel
theorem dX12_unlawful_0 : decode cX12_unlawful 0 = .ok (.iload_n 1, 1) := by decide +kernel
theorem dX12_unlawful_1 : decode cX12_unlawful 1 = .ok (.iconst 0, 1) := by decide +kernel
theorem dX12_unlawful_2 : decode cX12_unlawful 2 = .ok (.iconst 1, 1) := by decide +kernel
theorem dX12_unlawful_3 : decode cX12_unlawful 3 = .ok (.invokestatic 73, 3) := by decide +kernel
theorem dX12_unlawful_6 : decode cX12_unlawful 6 = .ok (.ifCond .ne 6, 3) := by decide +kernel
theorem dX12_unlawful_9 : decode cX12_unlawful 9 = .ok (.ldc 78, 2) := by decide +kernel
theorem dX12_unlawful_11 : decode cX12_unlawful 11 = .ok (.ireturn, 1) := by decide +kernel
theorem dX12_unlawful_12 : decode cX12_unlawful 12 = .ok (.iload_n 1, 1) := by decide +kernel
theorem dX12_unlawful_13 : decode cX12_unlawful 13 = .ok (.ifCond .ne 8, 3) := by decide +kernel
theorem dX12_unlawful_16 : decode cX12_unlawful 16 = .ok (.aload_n 0, 1) := by decide +kernel
theorem dX12_unlawful_17 : decode cX12_unlawful 17 = .ok (.invokevirtual 177, 3) := by decide +kernel
theorem dX12_unlawful_20 : decode cX12_unlawful 20 = .ok (.ireturn, 1) := by decide +kernel
theorem dX12_unlawful_21 : decode cX12_unlawful 21 = .ok (.iconst 0, 1) := by decide +kernel
theorem dX12_unlawful_22 : decode cX12_unlawful 22 = .ok (.istore_n 2, 1) := by decide +kernel
theorem dX12_unlawful_23 : decode cX12_unlawful 23 = .ok (.iload_n 2, 1) := by decide +kernel
theorem dX12_unlawful_24 : decode cX12_unlawful 24 = .ok (.aload_n 0, 1) := by decide +kernel
theorem dX12_unlawful_25 : decode cX12_unlawful 25 = .ok (.getfield 9, 3) := by decide +kernel
theorem dX12_unlawful_28 : decode cX12_unlawful 28 = .ok (.iconst 2, 1) := by decide +kernel
theorem dX12_unlawful_29 : decode cX12_unlawful 29 = .ok (.iaload, 1) := by decide +kernel
theorem dX12_unlawful_30 : decode cX12_unlawful 30 = .ok (.if_icmp .ge 17, 3) := by decide +kernel
theorem dX12_unlawful_33 : decode cX12_unlawful 33 = .ok (.aload_n 0, 1) := by decide +kernel
theorem dX12_unlawful_34 : decode cX12_unlawful 34 = .ok (.iload_n 2, 1) := by decide +kernel
theorem dX12_unlawful_35 : decode cX12_unlawful 35 = .ok (.invokevirtual 129, 3) := by decide +kernel
theorem dX12_unlawful_38 : decode cX12_unlawful 38 = .ok (.ifCond .eq 9, 3) := by decide +kernel
theorem dX12_unlawful_41 : decode cX12_unlawful 41 = .ok (.iinc 2 1, 3) := by decide +kernel
theorem dX12_unlawful_44 : decode cX12_unlawful 44 = .ok (.goto (-21), 3) := by decide +kernel
theorem dX12_unlawful_47 : decode cX12_unlawful 47 = .ok (.iload_n 2, 1) := by decide +kernel
theorem dX12_unlawful_48 : decode cX12_unlawful 48 = .ok (.aload_n 0, 1) := by decide +kernel
theorem dX12_unlawful_49 : decode cX12_unlawful 49 = .ok (.getfield 9, 3) := by decide +kernel
theorem dX12_unlawful_52 : decode cX12_unlawful 52 = .ok (.iconst 2, 1) := by decide +kernel
theorem dX12_unlawful_53 : decode cX12_unlawful 53 = .ok (.iaload, 1) := by decide +kernel
theorem dX12_unlawful_54 : decode cX12_unlawful 54 = .ok (.if_icmp .ge 7, 3) := by decide +kernel
theorem dX12_unlawful_57 : decode cX12_unlawful 57 = .ok (.iload_n 2, 1) := by decide +kernel
theorem dX12_unlawful_58 : decode cX12_unlawful 58 = .ok (.goto 5, 3) := by decide +kernel
theorem dX12_unlawful_61 : decode cX12_unlawful 61 = .ok (.ldc 72, 2) := by decide +kernel
theorem dX12_unlawful_63 : decode cX12_unlawful 63 = .ok (.ireturn, 1) := by decide +kernel
theorem dX12_worst_0 : decode cX12_worst 0 = .ok (.iload_n 1, 1) := by decide +kernel
theorem dX12_worst_1 : decode cX12_worst 1 = .ok (.iconst 0, 1) := by decide +kernel
theorem dX12_worst_2 : decode cX12_worst 2 = .ok (.iconst 2, 1) := by decide +kernel
theorem dX12_worst_3 : decode cX12_worst 3 = .ok (.invokestatic 73, 3) := by decide +kernel
theorem dX12_worst_6 : decode cX12_worst 6 = .ok (.ifCond .ne 6, 3) := by decide +kernel
theorem dX12_worst_9 : decode cX12_worst 9 = .ok (.ldc 78, 2) := by decide +kernel
theorem dX12_worst_11 : decode cX12_worst 11 = .ok (.ireturn, 1) := by decide +kernel
theorem dX12_worst_12 : decode cX12_worst 12 = .ok (.iconst (-1), 1) := by decide +kernel
theorem dX12_worst_13 : decode cX12_worst 13 = .ok (.istore_n 2, 1) := by decide +kernel
theorem dX12_worst_14 : decode cX12_worst 14 = .ok (.iconst (-1), 1) := by decide +kernel
theorem dX12_worst_15 : decode cX12_worst 15 = .ok (.istore_n 3, 1) := by decide +kernel
theorem dX12_worst_16 : decode cX12_worst 16 = .ok (.iconst (-1), 1) := by decide +kernel
theorem dX12_worst_17 : decode cX12_worst 17 = .ok (.istore 4, 2) := by decide +kernel
theorem dX12_worst_19 : decode cX12_worst 19 = .ok (.iconst 0, 1) := by decide +kernel
theorem dX12_worst_20 : decode cX12_worst 20 = .ok (.istore 5, 2) := by decide +kernel
theorem dX12_worst_22 : decode cX12_worst 22 = .ok (.iload 5, 2) := by decide +kernel
theorem dX12_worst_24 : decode cX12_worst 24 = .ok (.aload_n 0, 1) := by decide +kernel
theorem dX12_worst_25 : decode cX12_worst 25 = .ok (.getfield 9, 3) := by decide +kernel
theorem dX12_worst_28 : decode cX12_worst 28 = .ok (.iconst 3, 1) := by decide +kernel
theorem dX12_worst_29 : decode cX12_worst 29 = .ok (.iaload, 1) := by decide +kernel
theorem dX12_worst_30 : decode cX12_worst 30 = .ok (.if_icmp .ge 81, 3) := by decide +kernel
theorem dX12_worst_33 : decode cX12_worst 33 = .ok (.aload_n 0, 1) := by decide +kernel
theorem dX12_worst_34 : decode cX12_worst 34 = .ok (.iload 5, 2) := by decide +kernel
theorem dX12_worst_36 : decode cX12_worst 36 = .ok (.iconst 0, 1) := by decide +kernel
theorem dX12_worst_37 : decode cX12_worst 37 = .ok (.invokevirtual 164, 3) := by decide +kernel
theorem dX12_worst_40 : decode cX12_worst 40 = .ok (.istore 6, 2) := by decide +kernel
theorem dX12_worst_42 : decode cX12_worst 42 = .ok (.iload 6, 2) := by decide +kernel
theorem dX12_worst_44 : decode cX12_worst 44 = .ok (.ifCond .ge 7, 3) := by decide +kernel
theorem dX12_worst_47 : decode cX12_worst 47 = .ok (.iconst (-1), 1) := by decide +kernel
theorem dX12_worst_48 : decode cX12_worst 48 = .ok (.goto 11, 3) := by decide +kernel
theorem dX12_worst_51 : decode cX12_worst 51 = .ok (.aload_n 0, 1) := by decide +kernel
theorem dX12_worst_52 : decode cX12_worst 52 = .ok (.iload 5, 2) := by decide +kernel
theorem dX12_worst_54 : decode cX12_worst 54 = .ok (.iload 6, 2) := by decide +kernel
theorem dX12_worst_56 : decode cX12_worst 56 = .ok (.invokevirtual 158, 3) := by decide +kernel
theorem dX12_worst_59 : decode cX12_worst 59 = .ok (.istore 7, 2) := by decide +kernel
theorem dX12_worst_61 : decode cX12_worst 61 = .ok (.iload 7, 2) := by decide +kernel
theorem dX12_worst_63 : decode cX12_worst 63 = .ok (.iload 4, 2) := by decide +kernel
theorem dX12_worst_65 : decode cX12_worst 65 = .ok (.if_icmp .le 8, 3) := by decide +kernel
theorem dX12_worst_68 : decode cX12_worst 68 = .ok (.iload 5, 2) := by decide +kernel
theorem dX12_worst_70 : decode cX12_worst 70 = .ok (.goto 4, 3) := by decide +kernel
theorem dX12_worst_73 : decode cX12_worst 73 = .ok (.iload_n 2, 1) := by decide +kernel
theorem dX12_worst_74 : decode cX12_worst 74 = .ok (.istore_n 2, 1) := by decide +kernel
theorem dX12_worst_75 : decode cX12_worst 75 = .ok (.iload 7, 2) := by decide +kernel
theorem dX12_worst_77 : decode cX12_worst 77 = .ok (.iload 4, 2) := by decide +kernel
theorem dX12_worst_79 : decode cX12_worst 79 = .ok (.if_icmp .le 8, 3) := by decide +kernel
theorem dX12_worst_82 : decode cX12_worst 82 = .ok (.iload 6, 2) := by decide +kernel
theorem dX12_worst_84 : decode cX12_worst 84 = .ok (.goto 4, 3) := by decide +kernel
theorem dX12_worst_87 : decode cX12_worst 87 = .ok (.iload_n 3, 1) := by decide +kernel
theorem dX12_worst_88 : decode cX12_worst 88 = .ok (.istore_n 3, 1) := by decide +kernel
theorem dX12_worst_89 : decode cX12_worst 89 = .ok (.iload 7, 2) := by decide +kernel
theorem dX12_worst_91 : decode cX12_worst 91 = .ok (.iload 4, 2) := by decide +kernel
theorem dX12_worst_93 : decode cX12_worst 93 = .ok (.if_icmp .le 8, 3) := by decide +kernel
theorem dX12_worst_96 : decode cX12_worst 96 = .ok (.iload 7, 2) := by decide +kernel
theorem dX12_worst_98 : decode cX12_worst 98 = .ok (.goto 5, 3) := by decide +kernel
theorem dX12_worst_101 : decode cX12_worst 101 = .ok (.iload 4, 2) := by decide +kernel
theorem dX12_worst_103 : decode cX12_worst 103 = .ok (.istore 4, 2) := by decide +kernel
theorem dX12_worst_105 : decode cX12_worst 105 = .ok (.iinc 5 1, 3) := by decide +kernel
theorem dX12_worst_108 : decode cX12_worst 108 = .ok (.goto (-86), 3) := by decide +kernel
theorem dX12_worst_111 : decode cX12_worst 111 = .ok (.iload_n 1, 1) := by decide +kernel
theorem dX12_worst_112 : decode cX12_worst 112 = .ok (.ifCond .ne 7, 3) := by decide +kernel
theorem dX12_worst_115 : decode cX12_worst 115 = .ok (.iload_n 2, 1) := by decide +kernel
theorem dX12_worst_116 : decode cX12_worst 116 = .ok (.goto 14, 3) := by decide +kernel
theorem dX12_worst_119 : decode cX12_worst 119 = .ok (.iload_n 1, 1) := by decide +kernel
theorem dX12_worst_120 : decode cX12_worst 120 = .ok (.iconst 1, 1) := by decide +kernel
theorem dX12_worst_121 : decode cX12_worst 121 = .ok (.if_icmp .ne 7, 3) := by decide +kernel
theorem dX12_worst_124 : decode cX12_worst 124 = .ok (.iload_n 3, 1) := by decide +kernel
theorem dX12_worst_125 : decode cX12_worst 125 = .ok (.goto 5, 3) := by decide +kernel
theorem dX12_worst_128 : decode cX12_worst 128 = .ok (.iload 4, 2) := by decide +kernel
theorem dX12_worst_130 : decode cX12_worst 130 = .ok (.invokestatic 132, 3) := by decide +kernel
theorem dX12_worst_133 : decode cX12_worst 133 = .ok (.ireturn, 1) := by decide +kernel
theorem dX12_setOf_0 : decode cX12_setOf 0 = .ok (.iconst 0, 1) := by decide +kernel
theorem dX12_setOf_1 : decode cX12_setOf 1 = .ok (.istore_n 2, 1) := by decide +kernel
theorem dX12_setOf_2 : decode cX12_setOf 2 = .ok (.iconst 0, 1) := by decide +kernel
theorem dX12_setOf_3 : decode cX12_setOf 3 = .ok (.istore_n 3, 1) := by decide +kernel
theorem dX12_setOf_4 : decode cX12_setOf 4 = .ok (.iload_n 3, 1) := by decide +kernel
theorem dX12_setOf_5 : decode cX12_setOf 5 = .ok (.iconst 2, 1) := by decide +kernel
theorem dX12_setOf_6 : decode cX12_setOf 6 = .ok (.if_icmp .ge 37, 3) := by decide +kernel
theorem dX12_setOf_9 : decode cX12_setOf 9 = .ok (.iload_n 2, 1) := by decide +kernel
theorem dX12_setOf_10 : decode cX12_setOf 10 = .ok (.aload_n 0, 1) := by decide +kernel
theorem dX12_setOf_11 : decode cX12_setOf 11 = .ok (.iload_n 1, 1) := by decide +kernel
theorem dX12_setOf_12 : decode cX12_setOf 12 = .ok (.iconst 3, 1) := by decide +kernel
theorem dX12_setOf_13 : decode cX12_setOf 13 = .ok (.iload_n 3, 1) := by decide +kernel
theorem dX12_setOf_14 : decode cX12_setOf 14 = .ok (.iadd, 1) := by decide +kernel
theorem dX12_setOf_15 : decode cX12_setOf 15 = .ok (.invokevirtual 84, 3) := by decide +kernel
theorem dX12_setOf_18 : decode cX12_setOf 18 = .ok (.ifCond .ge 7, 3) := by decide +kernel
theorem dX12_setOf_21 : decode cX12_setOf 21 = .ok (.iconst 0, 1) := by decide +kernel
theorem dX12_setOf_22 : decode cX12_setOf 22 = .ok (.goto 13, 3) := by decide +kernel
theorem dX12_setOf_25 : decode cX12_setOf 25 = .ok (.iconst 1, 1) := by decide +kernel
theorem dX12_setOf_26 : decode cX12_setOf 26 = .ok (.aload_n 0, 1) := by decide +kernel
theorem dX12_setOf_27 : decode cX12_setOf 27 = .ok (.iload_n 1, 1) := by decide +kernel
theorem dX12_setOf_28 : decode cX12_setOf 28 = .ok (.iconst 3, 1) := by decide +kernel
theorem dX12_setOf_29 : decode cX12_setOf 29 = .ok (.iload_n 3, 1) := by decide +kernel
theorem dX12_setOf_30 : decode cX12_setOf 30 = .ok (.iadd, 1) := by decide +kernel
theorem dX12_setOf_31 : decode cX12_setOf 31 = .ok (.invokevirtual 84, 3) := by decide +kernel
theorem dX12_setOf_34 : decode cX12_setOf 34 = .ok (.ishl, 1) := by decide +kernel
theorem dX12_setOf_35 : decode cX12_setOf 35 = .ok (.ior, 1) := by decide +kernel
theorem dX12_setOf_36 : decode cX12_setOf 36 = .ok (.istore_n 2, 1) := by decide +kernel
theorem dX12_setOf_37 : decode cX12_setOf 37 = .ok (.iinc 3 1, 3) := by decide +kernel
theorem dX12_setOf_40 : decode cX12_setOf 40 = .ok (.goto (-36), 3) := by decide +kernel
theorem dX12_setOf_43 : decode cX12_setOf 43 = .ok (.iload_n 2, 1) := by decide +kernel
theorem dX12_setOf_44 : decode cX12_setOf 44 = .ok (.ireturn, 1) := by decide +kernel
theorem dX12_heardBy_0 : decode cX12_heardBy 0 = .ok (.iconst 0, 1) := by decide +kernel
theorem dX12_heardBy_1 : decode cX12_heardBy 1 = .ok (.istore_n 2, 1) := by decide +kernel
theorem dX12_heardBy_2 : decode cX12_heardBy 2 = .ok (.iconst 0, 1) := by decide +kernel
theorem dX12_heardBy_3 : decode cX12_heardBy 3 = .ok (.istore_n 3, 1) := by decide +kernel
theorem dX12_heardBy_4 : decode cX12_heardBy 4 = .ok (.iload_n 3, 1) := by decide +kernel
theorem dX12_heardBy_5 : decode cX12_heardBy 5 = .ok (.aload_n 0, 1) := by decide +kernel
theorem dX12_heardBy_6 : decode cX12_heardBy 6 = .ok (.getfield 9, 3) := by decide +kernel
theorem dX12_heardBy_9 : decode cX12_heardBy 9 = .ok (.iconst 2, 1) := by decide +kernel
theorem dX12_heardBy_10 : decode cX12_heardBy 10 = .ok (.iaload, 1) := by decide +kernel
theorem dX12_heardBy_11 : decode cX12_heardBy 11 = .ok (.if_icmp .ge 29, 3) := by decide +kernel
theorem dX12_heardBy_14 : decode cX12_heardBy 14 = .ok (.iload_n 2, 1) := by decide +kernel
theorem dX12_heardBy_15 : decode cX12_heardBy 15 = .ok (.aload_n 0, 1) := by decide +kernel
theorem dX12_heardBy_16 : decode cX12_heardBy 16 = .ok (.iload_n 3, 1) := by decide +kernel
theorem dX12_heardBy_17 : decode cX12_heardBy 17 = .ok (.invokevirtual 180, 3) := by decide +kernel
theorem dX12_heardBy_20 : decode cX12_heardBy 20 = .ok (.iload_n 1, 1) := by decide +kernel
theorem dX12_heardBy_21 : decode cX12_heardBy 21 = .ok (.iand, 1) := by decide +kernel
theorem dX12_heardBy_22 : decode cX12_heardBy 22 = .ok (.ifCond .eq 9, 3) := by decide +kernel
theorem dX12_heardBy_25 : decode cX12_heardBy 25 = .ok (.iconst 1, 1) := by decide +kernel
theorem dX12_heardBy_26 : decode cX12_heardBy 26 = .ok (.iload_n 3, 1) := by decide +kernel
theorem dX12_heardBy_27 : decode cX12_heardBy 27 = .ok (.ishl, 1) := by decide +kernel
theorem dX12_heardBy_28 : decode cX12_heardBy 28 = .ok (.goto 4, 3) := by decide +kernel
theorem dX12_heardBy_31 : decode cX12_heardBy 31 = .ok (.iconst 0, 1) := by decide +kernel
theorem dX12_heardBy_32 : decode cX12_heardBy 32 = .ok (.ior, 1) := by decide +kernel
theorem dX12_heardBy_33 : decode cX12_heardBy 33 = .ok (.istore_n 2, 1) := by decide +kernel
theorem dX12_heardBy_34 : decode cX12_heardBy 34 = .ok (.iinc 3 1, 3) := by decide +kernel
theorem dX12_heardBy_37 : decode cX12_heardBy 37 = .ok (.goto (-33), 3) := by decide +kernel
theorem dX12_heardBy_40 : decode cX12_heardBy 40 = .ok (.iload_n 2, 1) := by decide +kernel
theorem dX12_heardBy_41 : decode cX12_heardBy 41 = .ok (.ireturn, 1) := by decide +kernel
theorem dX12_heard_0 : decode cX12_heard 0 = .ok (.iload_n 1, 1) := by decide +kernel
theorem dX12_heard_1 : decode cX12_heard 1 = .ok (.ifCond .lt 14, 3) := by decide +kernel
theorem dX12_heard_4 : decode cX12_heard 4 = .ok (.iload_n 1, 1) := by decide +kernel
theorem dX12_heard_5 : decode cX12_heard 5 = .ok (.aload_n 0, 1) := by decide +kernel
theorem dX12_heard_6 : decode cX12_heard 6 = .ok (.getfield 9, 3) := by decide +kernel
theorem dX12_heard_9 : decode cX12_heard 9 = .ok (.iconst 1, 1) := by decide +kernel
theorem dX12_heard_10 : decode cX12_heard 10 = .ok (.iaload, 1) := by decide +kernel
theorem dX12_heard_11 : decode cX12_heard 11 = .ok (.ishr, 1) := by decide +kernel
theorem dX12_heard_12 : decode cX12_heard 12 = .ok (.ifCond .eq 8, 3) := by decide +kernel
theorem dX12_heard_15 : decode cX12_heard 15 = .ok (.ldc 78, 2) := by decide +kernel
theorem dX12_heard_17 : decode cX12_heard 17 = .ok (.goto 8, 3) := by decide +kernel
theorem dX12_heard_20 : decode cX12_heard 20 = .ok (.aload_n 0, 1) := by decide +kernel
theorem dX12_heard_21 : decode cX12_heard 21 = .ok (.iload_n 1, 1) := by decide +kernel
theorem dX12_heard_22 : decode cX12_heard 22 = .ok (.invokevirtual 183, 3) := by decide +kernel
theorem dX12_heard_25 : decode cX12_heard 25 = .ok (.ireturn, 1) := by decide +kernel
theorem dX12_bitsOf_0 : decode cX12_bitsOf 0 = .ok (.iconst 0, 1) := by decide +kernel
theorem dX12_bitsOf_1 : decode cX12_bitsOf 1 = .ok (.istore_n 1, 1) := by decide +kernel
theorem dX12_bitsOf_2 : decode cX12_bitsOf 2 = .ok (.iload_n 0, 1) := by decide +kernel
theorem dX12_bitsOf_3 : decode cX12_bitsOf 3 = .ok (.istore_n 2, 1) := by decide +kernel
theorem dX12_bitsOf_4 : decode cX12_bitsOf 4 = .ok (.iload_n 2, 1) := by decide +kernel
theorem dX12_bitsOf_5 : decode cX12_bitsOf 5 = .ok (.ifCond .eq 15, 3) := by decide +kernel
theorem dX12_bitsOf_8 : decode cX12_bitsOf 8 = .ok (.iinc 1 1, 3) := by decide +kernel
theorem dX12_bitsOf_11 : decode cX12_bitsOf 11 = .ok (.iload_n 2, 1) := by decide +kernel
theorem dX12_bitsOf_12 : decode cX12_bitsOf 12 = .ok (.iload_n 2, 1) := by decide +kernel
theorem dX12_bitsOf_13 : decode cX12_bitsOf 13 = .ok (.iconst 1, 1) := by decide +kernel
theorem dX12_bitsOf_14 : decode cX12_bitsOf 14 = .ok (.isub, 1) := by decide +kernel
theorem dX12_bitsOf_15 : decode cX12_bitsOf 15 = .ok (.iand, 1) := by decide +kernel
theorem dX12_bitsOf_16 : decode cX12_bitsOf 16 = .ok (.istore_n 2, 1) := by decide +kernel
theorem dX12_bitsOf_17 : decode cX12_bitsOf 17 = .ok (.goto (-13), 3) := by decide +kernel
theorem dX12_bitsOf_20 : decode cX12_bitsOf 20 = .ok (.iload_n 1, 1) := by decide +kernel
theorem dX12_bitsOf_21 : decode cX12_bitsOf 21 = .ok (.ireturn, 1) := by decide +kernel
theorem dX12_fewest_0 : decode cX12_fewest 0 = .ok (.iconst 1, 1) := by decide +kernel
theorem dX12_fewest_1 : decode cX12_fewest 1 = .ok (.aload_n 0, 1) := by decide +kernel
theorem dX12_fewest_2 : decode cX12_fewest 2 = .ok (.getfield 9, 3) := by decide +kernel
theorem dX12_fewest_5 : decode cX12_fewest 5 = .ok (.iconst 1, 1) := by decide +kernel
theorem dX12_fewest_6 : decode cX12_fewest 6 = .ok (.iaload, 1) := by decide +kernel
theorem dX12_fewest_7 : decode cX12_fewest 7 = .ok (.ishl, 1) := by decide +kernel
theorem dX12_fewest_8 : decode cX12_fewest 8 = .ok (.iconst 1, 1) := by decide +kernel
theorem dX12_fewest_9 : decode cX12_fewest 9 = .ok (.isub, 1) := by decide +kernel
theorem dX12_fewest_10 : decode cX12_fewest 10 = .ok (.istore_n 1, 1) := by decide +kernel
theorem dX12_fewest_11 : decode cX12_fewest 11 = .ok (.aload_n 0, 1) := by decide +kernel
theorem dX12_fewest_12 : decode cX12_fewest 12 = .ok (.iload_n 1, 1) := by decide +kernel
theorem dX12_fewest_13 : decode cX12_fewest 13 = .ok (.invokevirtual 183, 3) := by decide +kernel
theorem dX12_fewest_16 : decode cX12_fewest 16 = .ok (.istore_n 2, 1) := by decide +kernel
theorem dX12_fewest_17 : decode cX12_fewest 17 = .ok (.iload_n 1, 1) := by decide +kernel
theorem dX12_fewest_18 : decode cX12_fewest 18 = .ok (.istore_n 3, 1) := by decide +kernel
theorem dX12_fewest_19 : decode cX12_fewest 19 = .ok (.iload_n 1, 1) := by decide +kernel
theorem dX12_fewest_20 : decode cX12_fewest 20 = .ok (.istore 4, 2) := by decide +kernel
theorem dX12_fewest_22 : decode cX12_fewest 22 = .ok (.iload 4, 2) := by decide +kernel
theorem dX12_fewest_24 : decode cX12_fewest 24 = .ok (.ifCond .lt 38, 3) := by decide +kernel
theorem dX12_fewest_27 : decode cX12_fewest 27 = .ok (.iload 4, 2) := by decide +kernel
theorem dX12_fewest_29 : decode cX12_fewest 29 = .ok (.invokestatic 186, 3) := by decide +kernel
theorem dX12_fewest_32 : decode cX12_fewest 32 = .ok (.iload_n 3, 1) := by decide +kernel
theorem dX12_fewest_33 : decode cX12_fewest 33 = .ok (.invokestatic 186, 3) := by decide +kernel
theorem dX12_fewest_36 : decode cX12_fewest 36 = .ok (.if_icmp .gt 18, 3) := by decide +kernel
theorem dX12_fewest_39 : decode cX12_fewest 39 = .ok (.aload_n 0, 1) := by decide +kernel
theorem dX12_fewest_40 : decode cX12_fewest 40 = .ok (.iload 4, 2) := by decide +kernel
theorem dX12_fewest_42 : decode cX12_fewest 42 = .ok (.invokevirtual 183, 3) := by decide +kernel
theorem dX12_fewest_45 : decode cX12_fewest 45 = .ok (.iload_n 2, 1) := by decide +kernel
theorem dX12_fewest_46 : decode cX12_fewest 46 = .ok (.if_icmp .ne 8, 3) := by decide +kernel
theorem dX12_fewest_49 : decode cX12_fewest 49 = .ok (.iload 4, 2) := by decide +kernel
theorem dX12_fewest_51 : decode cX12_fewest 51 = .ok (.goto 4, 3) := by decide +kernel
theorem dX12_fewest_54 : decode cX12_fewest 54 = .ok (.iload_n 3, 1) := by decide +kernel
theorem dX12_fewest_55 : decode cX12_fewest 55 = .ok (.istore_n 3, 1) := by decide +kernel
theorem dX12_fewest_56 : decode cX12_fewest 56 = .ok (.iinc 4 (-1), 3) := by decide +kernel
theorem dX12_fewest_59 : decode cX12_fewest 59 = .ok (.goto (-37), 3) := by decide +kernel
theorem dX12_fewest_62 : decode cX12_fewest 62 = .ok (.iload_n 3, 1) := by decide +kernel
theorem dX12_fewest_63 : decode cX12_fewest 63 = .ok (.ireturn, 1) := by decide +kernel
theorem dX12_alike_0 : decode cX12_alike 0 = .ok (.iconst 0, 1) := by decide +kernel
theorem dX12_alike_1 : decode cX12_alike 1 = .ok (.istore_n 1, 1) := by decide +kernel
theorem dX12_alike_2 : decode cX12_alike 2 = .ok (.iconst 0, 1) := by decide +kernel
theorem dX12_alike_3 : decode cX12_alike 3 = .ok (.istore_n 2, 1) := by decide +kernel
theorem dX12_alike_4 : decode cX12_alike 4 = .ok (.iload_n 2, 1) := by decide +kernel
theorem dX12_alike_5 : decode cX12_alike 5 = .ok (.aload_n 0, 1) := by decide +kernel
theorem dX12_alike_6 : decode cX12_alike 6 = .ok (.getfield 9, 3) := by decide +kernel
theorem dX12_alike_9 : decode cX12_alike 9 = .ok (.iconst 2, 1) := by decide +kernel
theorem dX12_alike_10 : decode cX12_alike 10 = .ok (.iaload, 1) := by decide +kernel
theorem dX12_alike_11 : decode cX12_alike 11 = .ok (.if_icmp .ge 43, 3) := by decide +kernel
theorem dX12_alike_14 : decode cX12_alike 14 = .ok (.iconst 0, 1) := by decide +kernel
theorem dX12_alike_15 : decode cX12_alike 15 = .ok (.istore_n 3, 1) := by decide +kernel
theorem dX12_alike_16 : decode cX12_alike 16 = .ok (.iload_n 3, 1) := by decide +kernel
theorem dX12_alike_17 : decode cX12_alike 17 = .ok (.iload_n 2, 1) := by decide +kernel
theorem dX12_alike_18 : decode cX12_alike 18 = .ok (.if_icmp .ge 30, 3) := by decide +kernel
theorem dX12_alike_21 : decode cX12_alike 21 = .ok (.iload_n 1, 1) := by decide +kernel
theorem dX12_alike_22 : decode cX12_alike 22 = .ok (.aload_n 0, 1) := by decide +kernel
theorem dX12_alike_23 : decode cX12_alike 23 = .ok (.iload_n 2, 1) := by decide +kernel
theorem dX12_alike_24 : decode cX12_alike 24 = .ok (.invokevirtual 180, 3) := by decide +kernel
theorem dX12_alike_27 : decode cX12_alike 27 = .ok (.aload_n 0, 1) := by decide +kernel
theorem dX12_alike_28 : decode cX12_alike 28 = .ok (.iload_n 3, 1) := by decide +kernel
theorem dX12_alike_29 : decode cX12_alike 29 = .ok (.invokevirtual 180, 3) := by decide +kernel
theorem dX12_alike_32 : decode cX12_alike 32 = .ok (.if_icmp .ne 7, 3) := by decide +kernel
theorem dX12_alike_35 : decode cX12_alike 35 = .ok (.iconst 1, 1) := by decide +kernel
theorem dX12_alike_36 : decode cX12_alike 36 = .ok (.goto 4, 3) := by decide +kernel
theorem dX12_alike_39 : decode cX12_alike 39 = .ok (.iconst 0, 1) := by decide +kernel
theorem dX12_alike_40 : decode cX12_alike 40 = .ok (.iadd, 1) := by decide +kernel
theorem dX12_alike_41 : decode cX12_alike 41 = .ok (.istore_n 1, 1) := by decide +kernel
theorem dX12_alike_42 : decode cX12_alike 42 = .ok (.iinc 3 1, 3) := by decide +kernel
theorem dX12_alike_45 : decode cX12_alike 45 = .ok (.goto (-29), 3) := by decide +kernel
theorem dX12_alike_48 : decode cX12_alike 48 = .ok (.iinc 2 1, 3) := by decide +kernel
theorem dX12_alike_51 : decode cX12_alike 51 = .ok (.goto (-47), 3) := by decide +kernel
theorem dX12_alike_54 : decode cX12_alike 54 = .ok (.iload_n 1, 1) := by decide +kernel
theorem dX12_alike_55 : decode cX12_alike 55 = .ok (.ireturn, 1) := by decide +kernel
theorem dX12_feed_0 : decode cX12_feed 0 = .ok (.aload_n 0, 1) := by decide +kernel
theorem dX12_feed_1 : decode cX12_feed 1 = .ok (.getfield 189, 3) := by decide +kernel
theorem dX12_feed_4 : decode cX12_feed 4 = .ok (.bipush 12, 2) := by decide +kernel
theorem dX12_feed_6 : decode cX12_feed 6 = .ok (.iadd, 1) := by decide +kernel
theorem dX12_feed_7 : decode cX12_feed 7 = .ok (.bipush 96, 2) := by decide +kernel
theorem dX12_feed_9 : decode cX12_feed 9 = .ok (.if_icmp .le 6, 3) := by decide +kernel
theorem dX12_feed_12 : decode cX12_feed 12 = .ok (.ldc 79, 2) := by decide +kernel
theorem dX12_feed_14 : decode cX12_feed 14 = .ok (.ireturn, 1) := by decide +kernel
theorem dX12_feed_15 : decode cX12_feed 15 = .ok (.iconst 0, 1) := by decide +kernel
theorem dX12_feed_16 : decode cX12_feed 16 = .ok (.istore 4, 2) := by decide +kernel
theorem dX12_feed_18 : decode cX12_feed 18 = .ok (.iload 4, 2) := by decide +kernel
theorem dX12_feed_20 : decode cX12_feed 20 = .ok (.bipush 12, 2) := by decide +kernel
theorem dX12_feed_22 : decode cX12_feed 22 = .ok (.if_icmp .ge 62, 3) := by decide +kernel
theorem dX12_feed_25 : decode cX12_feed 25 = .ok (.iload 4, 2) := by decide +kernel
theorem dX12_feed_27 : decode cX12_feed 27 = .ok (.iconst 4, 1) := by decide +kernel
theorem dX12_feed_28 : decode cX12_feed 28 = .ok (.if_icmp .ge 7, 3) := by decide +kernel
theorem dX12_feed_31 : decode cX12_feed 31 = .ok (.iload_n 1, 1) := by decide +kernel
theorem dX12_feed_32 : decode cX12_feed 32 = .ok (.goto 15, 3) := by decide +kernel
theorem dX12_feed_35 : decode cX12_feed 35 = .ok (.iload 4, 2) := by decide +kernel
theorem dX12_feed_37 : decode cX12_feed 37 = .ok (.bipush 8, 2) := by decide +kernel
theorem dX12_feed_39 : decode cX12_feed 39 = .ok (.if_icmp .ge 7, 3) := by decide +kernel
theorem dX12_feed_42 : decode cX12_feed 42 = .ok (.iload_n 2, 1) := by decide +kernel
theorem dX12_feed_43 : decode cX12_feed 43 = .ok (.goto 4, 3) := by decide +kernel
theorem dX12_feed_46 : decode cX12_feed 46 = .ok (.iload_n 3, 1) := by decide +kernel
theorem dX12_feed_47 : decode cX12_feed 47 = .ok (.istore 5, 2) := by decide +kernel
theorem dX12_feed_49 : decode cX12_feed 49 = .ok (.aload_n 0, 1) := by decide +kernel
theorem dX12_feed_50 : decode cX12_feed 50 = .ok (.getfield 19, 3) := by decide +kernel
theorem dX12_feed_53 : decode cX12_feed 53 = .ok (.aload_n 0, 1) := by decide +kernel
theorem dX12_feed_54 : decode cX12_feed 54 = .ok (.getfield 189, 3) := by decide +kernel
theorem dX12_feed_57 : decode cX12_feed 57 = .ok (.iload 4, 2) := by decide +kernel
theorem dX12_feed_59 : decode cX12_feed 59 = .ok (.iadd, 1) := by decide +kernel
theorem dX12_feed_60 : decode cX12_feed 60 = .ok (.iload 5, 2) := by decide +kernel
theorem dX12_feed_62 : decode cX12_feed 62 = .ok (.bipush 24, 2) := by decide +kernel
theorem dX12_feed_64 : decode cX12_feed 64 = .ok (.bipush 8, 2) := by decide +kernel
theorem dX12_feed_66 : decode cX12_feed 66 = .ok (.iload 4, 2) := by decide +kernel
theorem dX12_feed_68 : decode cX12_feed 68 = .ok (.iconst 4, 1) := by decide +kernel
theorem dX12_feed_69 : decode cX12_feed 69 = .ok (.irem, 1) := by decide +kernel
theorem dX12_feed_70 : decode cX12_feed 70 = .ok (.imul, 1) := by decide +kernel
theorem dX12_feed_71 : decode cX12_feed 71 = .ok (.isub, 1) := by decide +kernel
theorem dX12_feed_72 : decode cX12_feed 72 = .ok (.ishr, 1) := by decide +kernel
theorem dX12_feed_73 : decode cX12_feed 73 = .ok (.sipush 255, 3) := by decide +kernel
theorem dX12_feed_76 : decode cX12_feed 76 = .ok (.iand, 1) := by decide +kernel
theorem dX12_feed_77 : decode cX12_feed 77 = .ok (.iastore, 1) := by decide +kernel
theorem dX12_feed_78 : decode cX12_feed 78 = .ok (.iinc 4 1, 3) := by decide +kernel
theorem dX12_feed_81 : decode cX12_feed 81 = .ok (.goto (-63), 3) := by decide +kernel
theorem dX12_feed_84 : decode cX12_feed 84 = .ok (.aload_n 0, 1) := by decide +kernel
theorem dX12_feed_85 : decode cX12_feed 85 = .ok (.dup, 1) := by decide +kernel
theorem dX12_feed_86 : decode cX12_feed 86 = .ok (.getfield 189, 3) := by decide +kernel
theorem dX12_feed_89 : decode cX12_feed 89 = .ok (.bipush 12, 2) := by decide +kernel
theorem dX12_feed_91 : decode cX12_feed 91 = .ok (.iadd, 1) := by decide +kernel
theorem dX12_feed_92 : decode cX12_feed 92 = .ok (.putfield 189, 3) := by decide +kernel
theorem dX12_feed_95 : decode cX12_feed 95 = .ok (.aload_n 0, 1) := by decide +kernel
theorem dX12_feed_96 : decode cX12_feed 96 = .ok (.getfield 189, 3) := by decide +kernel
theorem dX12_feed_99 : decode cX12_feed 99 = .ok (.ireturn, 1) := by decide +kernel
theorem dX12_trim_0 : decode cX12_trim 0 = .ok (.iload_n 1, 1) := by decide +kernel
theorem dX12_trim_1 : decode cX12_trim 1 = .ok (.iconst 0, 1) := by decide +kernel
theorem dX12_trim_2 : decode cX12_trim 2 = .ok (.aload_n 0, 1) := by decide +kernel
theorem dX12_trim_3 : decode cX12_trim 3 = .ok (.getfield 189, 3) := by decide +kernel
theorem dX12_trim_6 : decode cX12_trim 6 = .ok (.invokestatic 73, 3) := by decide +kernel
theorem dX12_trim_9 : decode cX12_trim 9 = .ok (.ifCond .ne 6, 3) := by decide +kernel
theorem dX12_trim_12 : decode cX12_trim 12 = .ok (.ldc 78, 2) := by decide +kernel
theorem dX12_trim_14 : decode cX12_trim 14 = .ok (.ireturn, 1) := by decide +kernel
theorem dX12_trim_15 : decode cX12_trim 15 = .ok (.aload_n 0, 1) := by decide +kernel
theorem dX12_trim_16 : decode cX12_trim 16 = .ok (.iload_n 1, 1) := by decide +kernel
theorem dX12_trim_17 : decode cX12_trim 17 = .ok (.putfield 189, 3) := by decide +kernel
theorem dX12_trim_20 : decode cX12_trim 20 = .ok (.iload_n 1, 1) := by decide +kernel
theorem dX12_trim_21 : decode cX12_trim 21 = .ok (.ireturn, 1) := by decide +kernel
theorem dX12_isLetter_0 : decode cX12_isLetter 0 = .ok (.iload_n 1, 1) := by decide +kernel
theorem dX12_isLetter_1 : decode cX12_isLetter 1 = .ok (.aload_n 0, 1) := by decide +kernel
theorem dX12_isLetter_2 : decode cX12_isLetter 2 = .ok (.getfield 189, 3) := by decide +kernel
theorem dX12_isLetter_5 : decode cX12_isLetter 5 = .ok (.if_icmp .ge 29, 3) := by decide +kernel
theorem dX12_isLetter_8 : decode cX12_isLetter 8 = .ok (.aload_n 0, 1) := by decide +kernel
theorem dX12_isLetter_9 : decode cX12_isLetter 9 = .ok (.getfield 19, 3) := by decide +kernel
theorem dX12_isLetter_12 : decode cX12_isLetter 12 = .ok (.iload_n 1, 1) := by decide +kernel
theorem dX12_isLetter_13 : decode cX12_isLetter 13 = .ok (.iaload, 1) := by decide +kernel
theorem dX12_isLetter_14 : decode cX12_isLetter 14 = .ok (.bipush 97, 2) := by decide +kernel
theorem dX12_isLetter_16 : decode cX12_isLetter 16 = .ok (.if_icmp .lt 18, 3) := by decide +kernel
theorem dX12_isLetter_19 : decode cX12_isLetter 19 = .ok (.aload_n 0, 1) := by decide +kernel
theorem dX12_isLetter_20 : decode cX12_isLetter 20 = .ok (.getfield 19, 3) := by decide +kernel
theorem dX12_isLetter_23 : decode cX12_isLetter 23 = .ok (.iload_n 1, 1) := by decide +kernel
theorem dX12_isLetter_24 : decode cX12_isLetter 24 = .ok (.iaload, 1) := by decide +kernel
theorem dX12_isLetter_25 : decode cX12_isLetter 25 = .ok (.bipush 122, 2) := by decide +kernel
theorem dX12_isLetter_27 : decode cX12_isLetter 27 = .ok (.if_icmp .gt 7, 3) := by decide +kernel
theorem dX12_isLetter_30 : decode cX12_isLetter 30 = .ok (.iconst 1, 1) := by decide +kernel
theorem dX12_isLetter_31 : decode cX12_isLetter 31 = .ok (.goto 4, 3) := by decide +kernel
theorem dX12_isLetter_34 : decode cX12_isLetter 34 = .ok (.iconst 0, 1) := by decide +kernel
theorem dX12_isLetter_35 : decode cX12_isLetter 35 = .ok (.ireturn, 1) := by decide +kernel
theorem dX12_isFigure_0 : decode cX12_isFigure 0 = .ok (.iload_n 1, 1) := by decide +kernel
theorem dX12_isFigure_1 : decode cX12_isFigure 1 = .ok (.aload_n 0, 1) := by decide +kernel
theorem dX12_isFigure_2 : decode cX12_isFigure 2 = .ok (.getfield 189, 3) := by decide +kernel
theorem dX12_isFigure_5 : decode cX12_isFigure 5 = .ok (.if_icmp .ge 29, 3) := by decide +kernel
theorem dX12_isFigure_8 : decode cX12_isFigure 8 = .ok (.aload_n 0, 1) := by decide +kernel
theorem dX12_isFigure_9 : decode cX12_isFigure 9 = .ok (.getfield 19, 3) := by decide +kernel
theorem dX12_isFigure_12 : decode cX12_isFigure 12 = .ok (.iload_n 1, 1) := by decide +kernel
theorem dX12_isFigure_13 : decode cX12_isFigure 13 = .ok (.iaload, 1) := by decide +kernel
theorem dX12_isFigure_14 : decode cX12_isFigure 14 = .ok (.bipush 48, 2) := by decide +kernel
theorem dX12_isFigure_16 : decode cX12_isFigure 16 = .ok (.if_icmp .lt 18, 3) := by decide +kernel
theorem dX12_isFigure_19 : decode cX12_isFigure 19 = .ok (.aload_n 0, 1) := by decide +kernel
theorem dX12_isFigure_20 : decode cX12_isFigure 20 = .ok (.getfield 19, 3) := by decide +kernel
theorem dX12_isFigure_23 : decode cX12_isFigure 23 = .ok (.iload_n 1, 1) := by decide +kernel
theorem dX12_isFigure_24 : decode cX12_isFigure 24 = .ok (.iaload, 1) := by decide +kernel
theorem dX12_isFigure_25 : decode cX12_isFigure 25 = .ok (.bipush 57, 2) := by decide +kernel
theorem dX12_isFigure_27 : decode cX12_isFigure 27 = .ok (.if_icmp .gt 7, 3) := by decide +kernel
theorem dX12_isFigure_30 : decode cX12_isFigure 30 = .ok (.iconst 1, 1) := by decide +kernel
theorem dX12_isFigure_31 : decode cX12_isFigure 31 = .ok (.goto 4, 3) := by decide +kernel
theorem dX12_isFigure_34 : decode cX12_isFigure 34 = .ok (.iconst 0, 1) := by decide +kernel
theorem dX12_isFigure_35 : decode cX12_isFigure 35 = .ok (.ireturn, 1) := by decide +kernel
theorem dX12_go_0 : decode cX12_go 0 = .ok (.aload_n 0, 1) := by decide +kernel
theorem dX12_go_1 : decode cX12_go 1 = .ok (.getfield 193, 3) := by decide +kernel
theorem dX12_go_4 : decode cX12_go 4 = .ok (.aload_n 0, 1) := by decide +kernel
theorem dX12_go_5 : decode cX12_go 5 = .ok (.getfield 189, 3) := by decide +kernel
theorem dX12_go_8 : decode cX12_go 8 = .ok (.if_icmp .ge 30, 3) := by decide +kernel
theorem dX12_go_11 : decode cX12_go 11 = .ok (.aload_n 0, 1) := by decide +kernel
theorem dX12_go_12 : decode cX12_go 12 = .ok (.getfield 19, 3) := by decide +kernel
theorem dX12_go_15 : decode cX12_go 15 = .ok (.aload_n 0, 1) := by decide +kernel
theorem dX12_go_16 : decode cX12_go 16 = .ok (.getfield 193, 3) := by decide +kernel
theorem dX12_go_19 : decode cX12_go 19 = .ok (.iaload, 1) := by decide +kernel
theorem dX12_go_20 : decode cX12_go 20 = .ok (.bipush 32, 2) := by decide +kernel
theorem dX12_go_22 : decode cX12_go 22 = .ok (.if_icmp .ne 16, 3) := by decide +kernel
theorem dX12_go_25 : decode cX12_go 25 = .ok (.aload_n 0, 1) := by decide +kernel
theorem dX12_go_26 : decode cX12_go 26 = .ok (.dup, 1) := by decide +kernel
theorem dX12_go_27 : decode cX12_go 27 = .ok (.getfield 193, 3) := by decide +kernel
theorem dX12_go_30 : decode cX12_go 30 = .ok (.iconst 1, 1) := by decide +kernel
theorem dX12_go_31 : decode cX12_go 31 = .ok (.iadd, 1) := by decide +kernel
theorem dX12_go_32 : decode cX12_go 32 = .ok (.putfield 193, 3) := by decide +kernel
theorem dX12_go_35 : decode cX12_go 35 = .ok (.goto (-35), 3) := by decide +kernel
theorem dX12_go_38 : decode cX12_go 38 = .ok (.aload_n 0, 1) := by decide +kernel
theorem dX12_go_39 : decode cX12_go 39 = .ok (.aload_n 0, 1) := by decide +kernel
theorem dX12_go_40 : decode cX12_go 40 = .ok (.getfield 193, 3) := by decide +kernel
theorem dX12_go_43 : decode cX12_go 43 = .ok (.putfield 196, 3) := by decide +kernel
theorem dX12_go_46 : decode cX12_go 46 = .ok (.aload_n 0, 1) := by decide +kernel
theorem dX12_go_47 : decode cX12_go 47 = .ok (.getfield 196, 3) := by decide +kernel
theorem dX12_go_50 : decode cX12_go 50 = .ok (.aload_n 0, 1) := by decide +kernel
theorem dX12_go_51 : decode cX12_go 51 = .ok (.getfield 199, 3) := by decide +kernel
theorem dX12_go_54 : decode cX12_go 54 = .ok (.if_icmp .ne 7, 3) := by decide +kernel
theorem dX12_go_57 : decode cX12_go 57 = .ok (.iconst 1, 1) := by decide +kernel
theorem dX12_go_58 : decode cX12_go 58 = .ok (.goto 4, 3) := by decide +kernel
theorem dX12_go_61 : decode cX12_go 61 = .ok (.iconst 0, 1) := by decide +kernel
theorem dX12_go_62 : decode cX12_go 62 = .ok (.istore_n 1, 1) := by decide +kernel
theorem dX12_go_63 : decode cX12_go 63 = .ok (.aload_n 0, 1) := by decide +kernel
theorem dX12_go_64 : decode cX12_go 64 = .ok (.getfield 196, 3) := by decide +kernel
theorem dX12_go_67 : decode cX12_go 67 = .ok (.aload_n 0, 1) := by decide +kernel
theorem dX12_go_68 : decode cX12_go 68 = .ok (.getfield 189, 3) := by decide +kernel
theorem dX12_go_71 : decode cX12_go 71 = .ok (.if_icmp .ne 11, 3) := by decide +kernel
theorem dX12_go_74 : decode cX12_go 74 = .ok (.aload_n 0, 1) := by decide +kernel
theorem dX12_go_75 : decode cX12_go 75 = .ok (.iconst 0, 1) := by decide +kernel
theorem dX12_go_76 : decode cX12_go 76 = .ok (.putfield 202, 3) := by decide +kernel
theorem dX12_go_79 : decode cX12_go 79 = .ok (.goto 224, 3) := by decide +kernel
theorem dX12_go_82 : decode cX12_go 82 = .ok (.aload_n 0, 1) := by decide +kernel
theorem dX12_go_83 : decode cX12_go 83 = .ok (.aload_n 0, 1) := by decide +kernel
theorem dX12_go_84 : decode cX12_go 84 = .ok (.getfield 196, 3) := by decide +kernel
theorem dX12_go_87 : decode cX12_go 87 = .ok (.invokevirtual 205, 3) := by decide +kernel
theorem dX12_go_90 : decode cX12_go 90 = .ok (.ifCond .eq 64, 3) := by decide +kernel
theorem dX12_go_93 : decode cX12_go 93 = .ok (.aload_n 0, 1) := by decide +kernel
theorem dX12_go_94 : decode cX12_go 94 = .ok (.aload_n 0, 1) := by decide +kernel
theorem dX12_go_95 : decode cX12_go 95 = .ok (.getfield 193, 3) := by decide +kernel
theorem dX12_go_98 : decode cX12_go 98 = .ok (.invokevirtual 205, 3) := by decide +kernel
theorem dX12_go_101 : decode cX12_go 101 = .ok (.ifCond .eq 16, 3) := by decide +kernel
theorem dX12_go_104 : decode cX12_go 104 = .ok (.aload_n 0, 1) := by decide +kernel
theorem dX12_go_105 : decode cX12_go 105 = .ok (.dup, 1) := by decide +kernel
theorem dX12_go_106 : decode cX12_go 106 = .ok (.getfield 193, 3) := by decide +kernel
theorem dX12_go_109 : decode cX12_go 109 = .ok (.iconst 1, 1) := by decide +kernel
theorem dX12_go_110 : decode cX12_go 110 = .ok (.iadd, 1) := by decide +kernel
theorem dX12_go_111 : decode cX12_go 111 = .ok (.putfield 193, 3) := by decide +kernel
theorem dX12_go_114 : decode cX12_go 114 = .ok (.goto (-21), 3) := by decide +kernel
theorem dX12_go_117 : decode cX12_go 117 = .ok (.aload_n 0, 1) := by decide +kernel
theorem dX12_go_118 : decode cX12_go 118 = .ok (.iload_n 1, 1) := by decide +kernel
theorem dX12_go_119 : decode cX12_go 119 = .ok (.ifCond .eq 7, 3) := by decide +kernel
theorem dX12_go_122 : decode cX12_go 122 = .ok (.iconst 4, 1) := by decide +kernel
theorem dX12_go_123 : decode cX12_go 123 = .ok (.goto 4, 3) := by decide +kernel
theorem dX12_go_126 : decode cX12_go 126 = .ok (.iconst 1, 1) := by decide +kernel
theorem dX12_go_127 : decode cX12_go 127 = .ok (.putfield 202, 3) := by decide +kernel
theorem dX12_go_130 : decode cX12_go 130 = .ok (.aload_n 0, 1) := by decide +kernel
theorem dX12_go_131 : decode cX12_go 131 = .ok (.aload_n 0, 1) := by decide +kernel
theorem dX12_go_132 : decode cX12_go 132 = .ok (.getfield 19, 3) := by decide +kernel
theorem dX12_go_135 : decode cX12_go 135 = .ok (.aload_n 0, 1) := by decide +kernel
theorem dX12_go_136 : decode cX12_go 136 = .ok (.getfield 196, 3) := by decide +kernel
theorem dX12_go_139 : decode cX12_go 139 = .ok (.iaload, 1) := by decide +kernel
theorem dX12_go_140 : decode cX12_go 140 = .ok (.putfield 208, 3) := by decide +kernel
theorem dX12_go_143 : decode cX12_go 143 = .ok (.aload_n 0, 1) := by decide +kernel
theorem dX12_go_144 : decode cX12_go 144 = .ok (.aload_n 0, 1) := by decide +kernel
theorem dX12_go_145 : decode cX12_go 145 = .ok (.getfield 193, 3) := by decide +kernel
theorem dX12_go_148 : decode cX12_go 148 = .ok (.putfield 199, 3) := by decide +kernel
theorem dX12_go_151 : decode cX12_go 151 = .ok (.goto 152, 3) := by decide +kernel
theorem dX12_go_154 : decode cX12_go 154 = .ok (.aload_n 0, 1) := by decide +kernel
theorem dX12_go_155 : decode cX12_go 155 = .ok (.aload_n 0, 1) := by decide +kernel
theorem dX12_go_156 : decode cX12_go 156 = .ok (.getfield 196, 3) := by decide +kernel
theorem dX12_go_159 : decode cX12_go 159 = .ok (.invokevirtual 211, 3) := by decide +kernel
theorem dX12_go_162 : decode cX12_go 162 = .ok (.ifCond .eq 113, 3) := by decide +kernel
theorem dX12_go_165 : decode cX12_go 165 = .ok (.aload_n 0, 1) := by decide +kernel
theorem dX12_go_166 : decode cX12_go 166 = .ok (.iconst 0, 1) := by decide +kernel
theorem dX12_go_167 : decode cX12_go 167 = .ok (.putfield 208, 3) := by decide +kernel
theorem dX12_go_170 : decode cX12_go 170 = .ok (.aload_n 0, 1) := by decide +kernel
theorem dX12_go_171 : decode cX12_go 171 = .ok (.aload_n 0, 1) := by decide +kernel
theorem dX12_go_172 : decode cX12_go 172 = .ok (.getfield 193, 3) := by decide +kernel
theorem dX12_go_175 : decode cX12_go 175 = .ok (.invokevirtual 211, 3) := by decide +kernel
theorem dX12_go_178 : decode cX12_go 178 = .ok (.ifCond .eq 60, 3) := by decide +kernel
theorem dX12_go_181 : decode cX12_go 181 = .ok (.aload_n 0, 1) := by decide +kernel
theorem dX12_go_182 : decode cX12_go 182 = .ok (.aload_n 0, 1) := by decide +kernel
theorem dX12_go_183 : decode cX12_go 183 = .ok (.getfield 193, 3) := by decide +kernel
theorem dX12_go_186 : decode cX12_go 186 = .ok (.aload_n 0, 1) := by decide +kernel
theorem dX12_go_187 : decode cX12_go 187 = .ok (.getfield 196, 3) := by decide +kernel
theorem dX12_go_190 : decode cX12_go 190 = .ok (.isub, 1) := by decide +kernel
theorem dX12_go_191 : decode cX12_go 191 = .ok (.iconst 4, 1) := by decide +kernel
theorem dX12_go_192 : decode cX12_go 192 = .ok (.if_icmp .ge 26, 3) := by decide +kernel
theorem dX12_go_195 : decode cX12_go 195 = .ok (.bipush 10, 2) := by decide +kernel
theorem dX12_go_197 : decode cX12_go 197 = .ok (.aload_n 0, 1) := by decide +kernel
theorem dX12_go_198 : decode cX12_go 198 = .ok (.getfield 208, 3) := by decide +kernel
theorem dX12_go_201 : decode cX12_go 201 = .ok (.imul, 1) := by decide +kernel
theorem dX12_go_202 : decode cX12_go 202 = .ok (.aload_n 0, 1) := by decide +kernel
theorem dX12_go_203 : decode cX12_go 203 = .ok (.getfield 19, 3) := by decide +kernel
theorem dX12_go_206 : decode cX12_go 206 = .ok (.aload_n 0, 1) := by decide +kernel
theorem dX12_go_207 : decode cX12_go 207 = .ok (.getfield 193, 3) := by decide +kernel
theorem dX12_go_210 : decode cX12_go 210 = .ok (.iaload, 1) := by decide +kernel
theorem dX12_go_211 : decode cX12_go 211 = .ok (.iadd, 1) := by decide +kernel
theorem dX12_go_212 : decode cX12_go 212 = .ok (.bipush 48, 2) := by decide +kernel
theorem dX12_go_214 : decode cX12_go 214 = .ok (.isub, 1) := by decide +kernel
theorem dX12_go_215 : decode cX12_go 215 = .ok (.goto 7, 3) := by decide +kernel
theorem dX12_go_218 : decode cX12_go 218 = .ok (.aload_n 0, 1) := by decide +kernel
theorem dX12_go_219 : decode cX12_go 219 = .ok (.getfield 208, 3) := by decide +kernel
theorem dX12_go_222 : decode cX12_go 222 = .ok (.putfield 208, 3) := by decide +kernel
theorem dX12_go_225 : decode cX12_go 225 = .ok (.aload_n 0, 1) := by decide +kernel
theorem dX12_go_226 : decode cX12_go 226 = .ok (.dup, 1) := by decide +kernel
theorem dX12_go_227 : decode cX12_go 227 = .ok (.getfield 193, 3) := by decide +kernel
theorem dX12_go_230 : decode cX12_go 230 = .ok (.iconst 1, 1) := by decide +kernel
theorem dX12_go_231 : decode cX12_go 231 = .ok (.iadd, 1) := by decide +kernel
theorem dX12_go_232 : decode cX12_go 232 = .ok (.putfield 193, 3) := by decide +kernel
theorem dX12_go_235 : decode cX12_go 235 = .ok (.goto (-65), 3) := by decide +kernel
theorem dX12_go_238 : decode cX12_go 238 = .ok (.aload_n 0, 1) := by decide +kernel
theorem dX12_go_239 : decode cX12_go 239 = .ok (.iload_n 1, 1) := by decide +kernel
theorem dX12_go_240 : decode cX12_go 240 = .ok (.ifCond .ne 16, 3) := by decide +kernel
theorem dX12_go_243 : decode cX12_go 243 = .ok (.aload_n 0, 1) := by decide +kernel
theorem dX12_go_244 : decode cX12_go 244 = .ok (.getfield 193, 3) := by decide +kernel
theorem dX12_go_247 : decode cX12_go 247 = .ok (.aload_n 0, 1) := by decide +kernel
theorem dX12_go_248 : decode cX12_go 248 = .ok (.getfield 196, 3) := by decide +kernel
theorem dX12_go_251 : decode cX12_go 251 = .ok (.isub, 1) := by decide +kernel
theorem dX12_go_252 : decode cX12_go 252 = .ok (.iconst 4, 1) := by decide +kernel
theorem dX12_go_253 : decode cX12_go 253 = .ok (.if_icmp .le 7, 3) := by decide +kernel
theorem dX12_go_256 : decode cX12_go 256 = .ok (.iconst 4, 1) := by decide +kernel
theorem dX12_go_257 : decode cX12_go 257 = .ok (.goto 4, 3) := by decide +kernel
theorem dX12_go_260 : decode cX12_go 260 = .ok (.iconst 2, 1) := by decide +kernel
theorem dX12_go_261 : decode cX12_go 261 = .ok (.putfield 202, 3) := by decide +kernel
theorem dX12_go_264 : decode cX12_go 264 = .ok (.aload_n 0, 1) := by decide +kernel
theorem dX12_go_265 : decode cX12_go 265 = .ok (.aload_n 0, 1) := by decide +kernel
theorem dX12_go_266 : decode cX12_go 266 = .ok (.getfield 193, 3) := by decide +kernel
theorem dX12_go_269 : decode cX12_go 269 = .ok (.putfield 199, 3) := by decide +kernel
theorem dX12_go_272 : decode cX12_go 272 = .ok (.goto 31, 3) := by decide +kernel
theorem dX12_go_275 : decode cX12_go 275 = .ok (.aload_n 0, 1) := by decide +kernel
theorem dX12_go_276 : decode cX12_go 276 = .ok (.iconst 3, 1) := by decide +kernel
theorem dX12_go_277 : decode cX12_go 277 = .ok (.putfield 202, 3) := by decide +kernel
theorem dX12_go_280 : decode cX12_go 280 = .ok (.aload_n 0, 1) := by decide +kernel
theorem dX12_go_281 : decode cX12_go 281 = .ok (.aload_n 0, 1) := by decide +kernel
theorem dX12_go_282 : decode cX12_go 282 = .ok (.getfield 19, 3) := by decide +kernel
theorem dX12_go_285 : decode cX12_go 285 = .ok (.aload_n 0, 1) := by decide +kernel
theorem dX12_go_286 : decode cX12_go 286 = .ok (.getfield 196, 3) := by decide +kernel
theorem dX12_go_289 : decode cX12_go 289 = .ok (.iaload, 1) := by decide +kernel
theorem dX12_go_290 : decode cX12_go 290 = .ok (.putfield 208, 3) := by decide +kernel
theorem dX12_go_293 : decode cX12_go 293 = .ok (.aload_n 0, 1) := by decide +kernel
theorem dX12_go_294 : decode cX12_go 294 = .ok (.dup, 1) := by decide +kernel
theorem dX12_go_295 : decode cX12_go 295 = .ok (.getfield 193, 3) := by decide +kernel
theorem dX12_go_298 : decode cX12_go 298 = .ok (.iconst 1, 1) := by decide +kernel
theorem dX12_go_299 : decode cX12_go 299 = .ok (.iadd, 1) := by decide +kernel
theorem dX12_go_300 : decode cX12_go 300 = .ok (.putfield 193, 3) := by decide +kernel
theorem dX12_go_303 : decode cX12_go 303 = .ok (.return_, 1) := by decide +kernel
theorem dX12_takesKey_0 : decode cX12_takesKey 0 = .ok (.aload_n 0, 1) := by decide +kernel
theorem dX12_takesKey_1 : decode cX12_takesKey 1 = .ok (.getfield 202, 3) := by decide +kernel
theorem dX12_takesKey_4 : decode cX12_takesKey 4 = .ok (.iconst 1, 1) := by decide +kernel
theorem dX12_takesKey_5 : decode cX12_takesKey 5 = .ok (.if_icmp .eq 5, 3) := by decide +kernel
theorem dX12_takesKey_8 : decode cX12_takesKey 8 = .ok (.iconst 0, 1) := by decide +kernel
theorem dX12_takesKey_9 : decode cX12_takesKey 9 = .ok (.ireturn, 1) := by decide +kernel
theorem dX12_takesKey_10 : decode cX12_takesKey 10 = .ok (.iconst 0, 1) := by decide +kernel
theorem dX12_takesKey_11 : decode cX12_takesKey 11 = .ok (.istore_n 1, 1) := by decide +kernel
theorem dX12_takesKey_12 : decode cX12_takesKey 12 = .ok (.iload_n 1, 1) := by decide +kernel
theorem dX12_takesKey_13 : decode cX12_takesKey 13 = .ok (.iconst 3, 1) := by decide +kernel
theorem dX12_takesKey_14 : decode cX12_takesKey 14 = .ok (.if_icmp .ge 113, 3) := by decide +kernel
theorem dX12_takesKey_17 : decode cX12_takesKey 17 = .ok (.aload_n 0, 1) := by decide +kernel
theorem dX12_takesKey_18 : decode cX12_takesKey 18 = .ok (.getfield 26, 3) := by decide +kernel
theorem dX12_takesKey_21 : decode cX12_takesKey 21 = .ok (.iload_n 1, 1) := by decide +kernel
theorem dX12_takesKey_22 : decode cX12_takesKey 22 = .ok (.iconst 1, 1) := by decide +kernel
theorem dX12_takesKey_23 : decode cX12_takesKey 23 = .ok (.iadd, 1) := by decide +kernel
theorem dX12_takesKey_24 : decode cX12_takesKey 24 = .ok (.iaload, 1) := by decide +kernel
theorem dX12_takesKey_25 : decode cX12_takesKey 25 = .ok (.aload_n 0, 1) := by decide +kernel
theorem dX12_takesKey_26 : decode cX12_takesKey 26 = .ok (.getfield 26, 3) := by decide +kernel
theorem dX12_takesKey_29 : decode cX12_takesKey 29 = .ok (.iload_n 1, 1) := by decide +kernel
theorem dX12_takesKey_30 : decode cX12_takesKey 30 = .ok (.iaload, 1) := by decide +kernel
theorem dX12_takesKey_31 : decode cX12_takesKey 31 = .ok (.isub, 1) := by decide +kernel
theorem dX12_takesKey_32 : decode cX12_takesKey 32 = .ok (.istore_n 2, 1) := by decide +kernel
theorem dX12_takesKey_33 : decode cX12_takesKey 33 = .ok (.iload_n 2, 1) := by decide +kernel
theorem dX12_takesKey_34 : decode cX12_takesKey 34 = .ok (.aload_n 0, 1) := by decide +kernel
theorem dX12_takesKey_35 : decode cX12_takesKey 35 = .ok (.getfield 193, 3) := by decide +kernel
theorem dX12_takesKey_38 : decode cX12_takesKey 38 = .ok (.aload_n 0, 1) := by decide +kernel
theorem dX12_takesKey_39 : decode cX12_takesKey 39 = .ok (.getfield 196, 3) := by decide +kernel
theorem dX12_takesKey_42 : decode cX12_takesKey 42 = .ok (.isub, 1) := by decide +kernel
theorem dX12_takesKey_43 : decode cX12_takesKey 43 = .ok (.if_icmp .ne 7, 3) := by decide +kernel
theorem dX12_takesKey_46 : decode cX12_takesKey 46 = .ok (.iconst 1, 1) := by decide +kernel
theorem dX12_takesKey_47 : decode cX12_takesKey 47 = .ok (.goto 4, 3) := by decide +kernel
theorem dX12_takesKey_50 : decode cX12_takesKey 50 = .ok (.iconst 0, 1) := by decide +kernel
theorem dX12_takesKey_51 : decode cX12_takesKey 51 = .ok (.istore_n 3, 1) := by decide +kernel
theorem dX12_takesKey_52 : decode cX12_takesKey 52 = .ok (.iconst 0, 1) := by decide +kernel
theorem dX12_takesKey_53 : decode cX12_takesKey 53 = .ok (.istore 4, 2) := by decide +kernel
theorem dX12_takesKey_55 : decode cX12_takesKey 55 = .ok (.iload 4, 2) := by decide +kernel
theorem dX12_takesKey_57 : decode cX12_takesKey 57 = .ok (.iload_n 2, 1) := by decide +kernel
theorem dX12_takesKey_58 : decode cX12_takesKey 58 = .ok (.if_icmp .ge 48, 3) := by decide +kernel
theorem dX12_takesKey_61 : decode cX12_takesKey 61 = .ok (.iload_n 3, 1) := by decide +kernel
theorem dX12_takesKey_62 : decode cX12_takesKey 62 = .ok (.ifCond .eq 44, 3) := by decide +kernel
theorem dX12_takesKey_65 : decode cX12_takesKey 65 = .ok (.aload_n 0, 1) := by decide +kernel
theorem dX12_takesKey_66 : decode cX12_takesKey 66 = .ok (.getfield 19, 3) := by decide +kernel
theorem dX12_takesKey_69 : decode cX12_takesKey 69 = .ok (.aload_n 0, 1) := by decide +kernel
theorem dX12_takesKey_70 : decode cX12_takesKey 70 = .ok (.getfield 196, 3) := by decide +kernel
theorem dX12_takesKey_73 : decode cX12_takesKey 73 = .ok (.iload 4, 2) := by decide +kernel
theorem dX12_takesKey_75 : decode cX12_takesKey 75 = .ok (.iadd, 1) := by decide +kernel
theorem dX12_takesKey_76 : decode cX12_takesKey 76 = .ok (.iaload, 1) := by decide +kernel
theorem dX12_takesKey_77 : decode cX12_takesKey 77 = .ok (.aload_n 0, 1) := by decide +kernel
theorem dX12_takesKey_78 : decode cX12_takesKey 78 = .ok (.getfield 22, 3) := by decide +kernel
theorem dX12_takesKey_81 : decode cX12_takesKey 81 = .ok (.aload_n 0, 1) := by decide +kernel
theorem dX12_takesKey_82 : decode cX12_takesKey 82 = .ok (.getfield 26, 3) := by decide +kernel
theorem dX12_takesKey_85 : decode cX12_takesKey 85 = .ok (.iload_n 1, 1) := by decide +kernel
theorem dX12_takesKey_86 : decode cX12_takesKey 86 = .ok (.iaload, 1) := by decide +kernel
theorem dX12_takesKey_87 : decode cX12_takesKey 87 = .ok (.iload 4, 2) := by decide +kernel
theorem dX12_takesKey_89 : decode cX12_takesKey 89 = .ok (.iadd, 1) := by decide +kernel
theorem dX12_takesKey_90 : decode cX12_takesKey 90 = .ok (.caload, 1) := by decide +kernel
theorem dX12_takesKey_91 : decode cX12_takesKey 91 = .ok (.if_icmp .ne 7, 3) := by decide +kernel
theorem dX12_takesKey_94 : decode cX12_takesKey 94 = .ok (.iconst 1, 1) := by decide +kernel
theorem dX12_takesKey_95 : decode cX12_takesKey 95 = .ok (.goto 4, 3) := by decide +kernel
theorem dX12_takesKey_98 : decode cX12_takesKey 98 = .ok (.iconst 0, 1) := by decide +kernel
theorem dX12_takesKey_99 : decode cX12_takesKey 99 = .ok (.istore_n 3, 1) := by decide +kernel
theorem dX12_takesKey_100 : decode cX12_takesKey 100 = .ok (.iinc 4 1, 3) := by decide +kernel
theorem dX12_takesKey_103 : decode cX12_takesKey 103 = .ok (.goto (-48), 3) := by decide +kernel
theorem dX12_takesKey_106 : decode cX12_takesKey 106 = .ok (.iload_n 3, 1) := by decide +kernel
theorem dX12_takesKey_107 : decode cX12_takesKey 107 = .ok (.ifCond .eq 14, 3) := by decide +kernel
theorem dX12_takesKey_110 : decode cX12_takesKey 110 = .ok (.aload_n 0, 1) := by decide +kernel
theorem dX12_takesKey_111 : decode cX12_takesKey 111 = .ok (.iload_n 1, 1) := by decide +kernel
theorem dX12_takesKey_112 : decode cX12_takesKey 112 = .ok (.putfield 214, 3) := by decide +kernel
theorem dX12_takesKey_115 : decode cX12_takesKey 115 = .ok (.aload_n 0, 1) := by decide +kernel
theorem dX12_takesKey_116 : decode cX12_takesKey 116 = .ok (.invokevirtual 217, 3) := by decide +kernel
theorem dX12_takesKey_119 : decode cX12_takesKey 119 = .ok (.iconst 1, 1) := by decide +kernel
theorem dX12_takesKey_120 : decode cX12_takesKey 120 = .ok (.ireturn, 1) := by decide +kernel
theorem dX12_takesKey_121 : decode cX12_takesKey 121 = .ok (.iinc 1 1, 3) := by decide +kernel
theorem dX12_takesKey_124 : decode cX12_takesKey 124 = .ok (.goto (-112), 3) := by decide +kernel
theorem dX12_takesKey_127 : decode cX12_takesKey 127 = .ok (.iconst 0, 1) := by decide +kernel
theorem dX12_takesKey_128 : decode cX12_takesKey 128 = .ok (.ireturn, 1) := by decide +kernel
theorem dX12_nameOf_0 : decode cX12_nameOf 0 = .ok (.aload_n 0, 1) := by decide +kernel
theorem dX12_nameOf_1 : decode cX12_nameOf 1 = .ok (.getfield 214, 3) := by decide +kernel
theorem dX12_nameOf_4 : decode cX12_nameOf 4 = .ok (.lookupswitch 92 #[(0, 28), (1, 70)], 28) := by decide +kernel
theorem dX12_nameOf_32 : decode cX12_nameOf 32 = .ok (.iload_n 1, 1) := by decide +kernel
theorem dX12_nameOf_33 : decode cX12_nameOf 33 = .ok (.bipush 97, 2) := by decide +kernel
theorem dX12_nameOf_35 : decode cX12_nameOf 35 = .ok (.if_icmp .ne 7, 3) := by decide +kernel
theorem dX12_nameOf_38 : decode cX12_nameOf 38 = .ok (.iconst 0, 1) := by decide +kernel
theorem dX12_nameOf_39 : decode cX12_nameOf 39 = .ok (.goto 34, 3) := by decide +kernel
theorem dX12_nameOf_42 : decode cX12_nameOf 42 = .ok (.iload_n 1, 1) := by decide +kernel
theorem dX12_nameOf_43 : decode cX12_nameOf 43 = .ok (.bipush 99, 2) := by decide +kernel
theorem dX12_nameOf_45 : decode cX12_nameOf 45 = .ok (.if_icmp .ne 7, 3) := by decide +kernel
theorem dX12_nameOf_48 : decode cX12_nameOf 48 = .ok (.iconst 1, 1) := by decide +kernel
theorem dX12_nameOf_49 : decode cX12_nameOf 49 = .ok (.goto 24, 3) := by decide +kernel
theorem dX12_nameOf_52 : decode cX12_nameOf 52 = .ok (.iload_n 1, 1) := by decide +kernel
theorem dX12_nameOf_53 : decode cX12_nameOf 53 = .ok (.bipush 108, 2) := by decide +kernel
theorem dX12_nameOf_55 : decode cX12_nameOf 55 = .ok (.if_icmp .ne 7, 3) := by decide +kernel
theorem dX12_nameOf_58 : decode cX12_nameOf 58 = .ok (.iconst 2, 1) := by decide +kernel
theorem dX12_nameOf_59 : decode cX12_nameOf 59 = .ok (.goto 14, 3) := by decide +kernel
theorem dX12_nameOf_62 : decode cX12_nameOf 62 = .ok (.iload_n 1, 1) := by decide +kernel
theorem dX12_nameOf_63 : decode cX12_nameOf 63 = .ok (.bipush 112, 2) := by decide +kernel
theorem dX12_nameOf_65 : decode cX12_nameOf 65 = .ok (.if_icmp .ne 7, 3) := by decide +kernel
theorem dX12_nameOf_68 : decode cX12_nameOf 68 = .ok (.iconst 3, 1) := by decide +kernel
theorem dX12_nameOf_69 : decode cX12_nameOf 69 = .ok (.goto 4, 3) := by decide +kernel
theorem dX12_nameOf_72 : decode cX12_nameOf 72 = .ok (.iconst (-1), 1) := by decide +kernel
theorem dX12_nameOf_73 : decode cX12_nameOf 73 = .ok (.ireturn, 1) := by decide +kernel
theorem dX12_nameOf_74 : decode cX12_nameOf 74 = .ok (.iload_n 1, 1) := by decide +kernel
theorem dX12_nameOf_75 : decode cX12_nameOf 75 = .ok (.bipush 119, 2) := by decide +kernel
theorem dX12_nameOf_77 : decode cX12_nameOf 77 = .ok (.if_icmp .ne 7, 3) := by decide +kernel
theorem dX12_nameOf_80 : decode cX12_nameOf 80 = .ok (.iconst 0, 1) := by decide +kernel
theorem dX12_nameOf_81 : decode cX12_nameOf 81 = .ok (.goto 14, 3) := by decide +kernel
theorem dX12_nameOf_84 : decode cX12_nameOf 84 = .ok (.iload_n 1, 1) := by decide +kernel
theorem dX12_nameOf_85 : decode cX12_nameOf 85 = .ok (.bipush 109, 2) := by decide +kernel
theorem dX12_nameOf_87 : decode cX12_nameOf 87 = .ok (.if_icmp .ne 7, 3) := by decide +kernel
theorem dX12_nameOf_90 : decode cX12_nameOf 90 = .ok (.iconst 1, 1) := by decide +kernel
theorem dX12_nameOf_91 : decode cX12_nameOf 91 = .ok (.goto 4, 3) := by decide +kernel
theorem dX12_nameOf_94 : decode cX12_nameOf 94 = .ok (.iconst (-1), 1) := by decide +kernel
theorem dX12_nameOf_95 : decode cX12_nameOf 95 = .ok (.ireturn, 1) := by decide +kernel
theorem dX12_nameOf_96 : decode cX12_nameOf 96 = .ok (.iload_n 1, 1) := by decide +kernel
theorem dX12_nameOf_97 : decode cX12_nameOf 97 = .ok (.bipush 112, 2) := by decide +kernel
theorem dX12_nameOf_99 : decode cX12_nameOf 99 = .ok (.if_icmp .ne 7, 3) := by decide +kernel
theorem dX12_nameOf_102 : decode cX12_nameOf 102 = .ok (.iconst 0, 1) := by decide +kernel
theorem dX12_nameOf_103 : decode cX12_nameOf 103 = .ok (.goto 24, 3) := by decide +kernel
theorem dX12_nameOf_106 : decode cX12_nameOf 106 = .ok (.iload_n 1, 1) := by decide +kernel
theorem dX12_nameOf_107 : decode cX12_nameOf 107 = .ok (.bipush 113, 2) := by decide +kernel
theorem dX12_nameOf_109 : decode cX12_nameOf 109 = .ok (.if_icmp .ne 7, 3) := by decide +kernel
theorem dX12_nameOf_112 : decode cX12_nameOf 112 = .ok (.iconst 1, 1) := by decide +kernel
theorem dX12_nameOf_113 : decode cX12_nameOf 113 = .ok (.goto 14, 3) := by decide +kernel
theorem dX12_nameOf_116 : decode cX12_nameOf 116 = .ok (.iload_n 1, 1) := by decide +kernel
theorem dX12_nameOf_117 : decode cX12_nameOf 117 = .ok (.bipush 111, 2) := by decide +kernel
theorem dX12_nameOf_119 : decode cX12_nameOf 119 = .ok (.if_icmp .ne 7, 3) := by decide +kernel
theorem dX12_nameOf_122 : decode cX12_nameOf 122 = .ok (.iconst 2, 1) := by decide +kernel
theorem dX12_nameOf_123 : decode cX12_nameOf 123 = .ok (.goto 4, 3) := by decide +kernel
theorem dX12_nameOf_126 : decode cX12_nameOf 126 = .ok (.iconst (-1), 1) := by decide +kernel
theorem dX12_nameOf_127 : decode cX12_nameOf 127 = .ok (.ireturn, 1) := by decide +kernel
theorem dX12_rank_0 : decode cX12_rank 0 = .ok (.iload_n 0, 1) := by decide +kernel
theorem dX12_rank_1 : decode cX12_rank 1 = .ok (.iconst (-1), 1) := by decide +kernel
theorem dX12_rank_2 : decode cX12_rank 2 = .ok (.if_icmp .ne 7, 3) := by decide +kernel
theorem dX12_rank_5 : decode cX12_rank 5 = .ok (.iconst 1, 1) := by decide +kernel
theorem dX12_rank_6 : decode cX12_rank 6 = .ok (.goto 45, 3) := by decide +kernel
theorem dX12_rank_9 : decode cX12_rank 9 = .ok (.iload_n 0, 1) := by decide +kernel
theorem dX12_rank_10 : decode cX12_rank 10 = .ok (.bipush (-2), 2) := by decide +kernel
theorem dX12_rank_12 : decode cX12_rank 12 = .ok (.if_icmp .ne 7, 3) := by decide +kernel
theorem dX12_rank_15 : decode cX12_rank 15 = .ok (.iconst 2, 1) := by decide +kernel
theorem dX12_rank_16 : decode cX12_rank 16 = .ok (.goto 35, 3) := by decide +kernel
theorem dX12_rank_19 : decode cX12_rank 19 = .ok (.iload_n 0, 1) := by decide +kernel
theorem dX12_rank_20 : decode cX12_rank 20 = .ok (.bipush (-5), 2) := by decide +kernel
theorem dX12_rank_22 : decode cX12_rank 22 = .ok (.if_icmp .lt 7, 3) := by decide +kernel
theorem dX12_rank_25 : decode cX12_rank 25 = .ok (.iconst 3, 1) := by decide +kernel
theorem dX12_rank_26 : decode cX12_rank 26 = .ok (.goto 25, 3) := by decide +kernel
theorem dX12_rank_29 : decode cX12_rank 29 = .ok (.iload_n 0, 1) := by decide +kernel
theorem dX12_rank_30 : decode cX12_rank 30 = .ok (.bipush (-7), 2) := by decide +kernel
theorem dX12_rank_32 : decode cX12_rank 32 = .ok (.if_icmp .lt 7, 3) := by decide +kernel
theorem dX12_rank_35 : decode cX12_rank 35 = .ok (.iconst 4, 1) := by decide +kernel
theorem dX12_rank_36 : decode cX12_rank 36 = .ok (.goto 15, 3) := by decide +kernel
theorem dX12_rank_39 : decode cX12_rank 39 = .ok (.iload_n 0, 1) := by decide +kernel
theorem dX12_rank_40 : decode cX12_rank 40 = .ok (.bipush (-9), 2) := by decide +kernel
theorem dX12_rank_42 : decode cX12_rank 42 = .ok (.if_icmp .lt 7, 3) := by decide +kernel
theorem dX12_rank_45 : decode cX12_rank 45 = .ok (.iconst 5, 1) := by decide +kernel
theorem dX12_rank_46 : decode cX12_rank 46 = .ok (.goto 5, 3) := by decide +kernel
theorem dX12_rank_49 : decode cX12_rank 49 = .ok (.bipush 6, 2) := by decide +kernel
theorem dX12_rank_51 : decode cX12_rank 51 = .ok (.ireturn, 1) := by decide +kernel
theorem dX12_settle_0 : decode cX12_settle 0 = .ok (.aload_n 0, 1) := by decide +kernel
theorem dX12_settle_1 : decode cX12_settle 1 = .ok (.getfield 220, 3) := by decide +kernel
theorem dX12_settle_4 : decode cX12_settle 4 = .ok (.ifCond .le 78, 3) := by decide +kernel
theorem dX12_settle_7 : decode cX12_settle 7 = .ok (.aload_n 0, 1) := by decide +kernel
theorem dX12_settle_8 : decode cX12_settle 8 = .ok (.getfield 32, 3) := by decide +kernel
theorem dX12_settle_11 : decode cX12_settle 11 = .ok (.aload_n 0, 1) := by decide +kernel
theorem dX12_settle_12 : decode cX12_settle 12 = .ok (.getfield 220, 3) := by decide +kernel
theorem dX12_settle_15 : decode cX12_settle 15 = .ok (.iconst 1, 1) := by decide +kernel
theorem dX12_settle_16 : decode cX12_settle 16 = .ok (.isub, 1) := by decide +kernel
theorem dX12_settle_17 : decode cX12_settle 17 = .ok (.iaload, 1) := by decide +kernel
theorem dX12_settle_18 : decode cX12_settle 18 = .ok (.bipush (-11), 2) := by decide +kernel
theorem dX12_settle_20 : decode cX12_settle 20 = .ok (.if_icmp .eq 62, 3) := by decide +kernel
theorem dX12_settle_23 : decode cX12_settle 23 = .ok (.aload_n 0, 1) := by decide +kernel
theorem dX12_settle_24 : decode cX12_settle 24 = .ok (.getfield 32, 3) := by decide +kernel
theorem dX12_settle_27 : decode cX12_settle 27 = .ok (.aload_n 0, 1) := by decide +kernel
theorem dX12_settle_28 : decode cX12_settle 28 = .ok (.getfield 220, 3) := by decide +kernel
theorem dX12_settle_31 : decode cX12_settle 31 = .ok (.iconst 1, 1) := by decide +kernel
theorem dX12_settle_32 : decode cX12_settle 32 = .ok (.isub, 1) := by decide +kernel
theorem dX12_settle_33 : decode cX12_settle 33 = .ok (.iaload, 1) := by decide +kernel
theorem dX12_settle_34 : decode cX12_settle 34 = .ok (.invokestatic 223, 3) := by decide +kernel
theorem dX12_settle_37 : decode cX12_settle 37 = .ok (.iload_n 1, 1) := by decide +kernel
theorem dX12_settle_38 : decode cX12_settle 38 = .ok (.if_icmp .lt 44, 3) := by decide +kernel
theorem dX12_settle_41 : decode cX12_settle 41 = .ok (.aload_n 0, 1) := by decide +kernel
theorem dX12_settle_42 : decode cX12_settle 42 = .ok (.dup, 1) := by decide +kernel
theorem dX12_settle_43 : decode cX12_settle 43 = .ok (.getfield 220, 3) := by decide +kernel
theorem dX12_settle_46 : decode cX12_settle 46 = .ok (.iconst 1, 1) := by decide +kernel
theorem dX12_settle_47 : decode cX12_settle 47 = .ok (.isub, 1) := by decide +kernel
theorem dX12_settle_48 : decode cX12_settle 48 = .ok (.putfield 220, 3) := by decide +kernel
theorem dX12_settle_51 : decode cX12_settle 51 = .ok (.aload_n 0, 1) := by decide +kernel
theorem dX12_settle_52 : decode cX12_settle 52 = .ok (.getfield 29, 3) := by decide +kernel
theorem dX12_settle_55 : decode cX12_settle 55 = .ok (.aload_n 0, 1) := by decide +kernel
theorem dX12_settle_56 : decode cX12_settle 56 = .ok (.getfield 226, 3) := by decide +kernel
theorem dX12_settle_59 : decode cX12_settle 59 = .ok (.aload_n 0, 1) := by decide +kernel
theorem dX12_settle_60 : decode cX12_settle 60 = .ok (.getfield 32, 3) := by decide +kernel
theorem dX12_settle_63 : decode cX12_settle 63 = .ok (.aload_n 0, 1) := by decide +kernel
theorem dX12_settle_64 : decode cX12_settle 64 = .ok (.getfield 220, 3) := by decide +kernel
theorem dX12_settle_67 : decode cX12_settle 67 = .ok (.iaload, 1) := by decide +kernel
theorem dX12_settle_68 : decode cX12_settle 68 = .ok (.iastore, 1) := by decide +kernel
theorem dX12_settle_69 : decode cX12_settle 69 = .ok (.aload_n 0, 1) := by decide +kernel
theorem dX12_settle_70 : decode cX12_settle 70 = .ok (.dup, 1) := by decide +kernel
theorem dX12_settle_71 : decode cX12_settle 71 = .ok (.getfield 226, 3) := by decide +kernel
theorem dX12_settle_74 : decode cX12_settle 74 = .ok (.iconst 1, 1) := by decide +kernel
theorem dX12_settle_75 : decode cX12_settle 75 = .ok (.iadd, 1) := by decide +kernel
theorem dX12_settle_76 : decode cX12_settle 76 = .ok (.putfield 226, 3) := by decide +kernel
theorem dX12_settle_79 : decode cX12_settle 79 = .ok (.goto (-79), 3) := by decide +kernel
theorem dX12_settle_82 : decode cX12_settle 82 = .ok (.return_, 1) := by decide +kernel
theorem dX12_signHere_0 : decode cX12_signHere 0 = .ok (.aload_n 0, 1) := by decide +kernel
theorem dX12_signHere_1 : decode cX12_signHere 1 = .ok (.getfield 202, 3) := by decide +kernel
theorem dX12_signHere_4 : decode cX12_signHere 4 = .ok (.iconst 3, 1) := by decide +kernel
theorem dX12_signHere_5 : decode cX12_signHere 5 = .ok (.if_icmp .eq 5, 3) := by decide +kernel
theorem dX12_signHere_8 : decode cX12_signHere 8 = .ok (.iconst 0, 1) := by decide +kernel
theorem dX12_signHere_9 : decode cX12_signHere 9 = .ok (.ireturn, 1) := by decide +kernel
theorem dX12_signHere_10 : decode cX12_signHere 10 = .ok (.aload_n 0, 1) := by decide +kernel
theorem dX12_signHere_11 : decode cX12_signHere 11 = .ok (.getfield 208, 3) := by decide +kernel
theorem dX12_signHere_14 : decode cX12_signHere 14 = .ok (.lookupswitch 108 #[(38, 84), (42, 102), (43, 96), (45, 99), (47, 105), (60, 87), (61, 90), (62, 93), (124, 82)], 82) := by decide +kernel
theorem dX12_signHere_96 : decode cX12_signHere 96 = .ok (.iconst (-1), 1) := by decide +kernel
theorem dX12_signHere_97 : decode cX12_signHere 97 = .ok (.ireturn, 1) := by decide +kernel
theorem dX12_signHere_98 : decode cX12_signHere 98 = .ok (.bipush (-2), 2) := by decide +kernel
theorem dX12_signHere_100 : decode cX12_signHere 100 = .ok (.ireturn, 1) := by decide +kernel
theorem dX12_signHere_101 : decode cX12_signHere 101 = .ok (.bipush (-3), 2) := by decide +kernel
theorem dX12_signHere_103 : decode cX12_signHere 103 = .ok (.ireturn, 1) := by decide +kernel
theorem dX12_signHere_104 : decode cX12_signHere 104 = .ok (.bipush (-4), 2) := by decide +kernel
theorem dX12_signHere_106 : decode cX12_signHere 106 = .ok (.ireturn, 1) := by decide +kernel
theorem dX12_signHere_107 : decode cX12_signHere 107 = .ok (.bipush (-5), 2) := by decide +kernel
theorem dX12_signHere_109 : decode cX12_signHere 109 = .ok (.ireturn, 1) := by decide +kernel
theorem dX12_signHere_110 : decode cX12_signHere 110 = .ok (.bipush (-6), 2) := by decide +kernel
theorem dX12_signHere_112 : decode cX12_signHere 112 = .ok (.ireturn, 1) := by decide +kernel
theorem dX12_signHere_113 : decode cX12_signHere 113 = .ok (.bipush (-7), 2) := by decide +kernel
theorem dX12_signHere_115 : decode cX12_signHere 115 = .ok (.ireturn, 1) := by decide +kernel
theorem dX12_signHere_116 : decode cX12_signHere 116 = .ok (.bipush (-8), 2) := by decide +kernel
theorem dX12_signHere_118 : decode cX12_signHere 118 = .ok (.ireturn, 1) := by decide +kernel
theorem dX12_signHere_119 : decode cX12_signHere 119 = .ok (.bipush (-9), 2) := by decide +kernel
theorem dX12_signHere_121 : decode cX12_signHere 121 = .ok (.ireturn, 1) := by decide +kernel
theorem dX12_signHere_122 : decode cX12_signHere 122 = .ok (.iconst 0, 1) := by decide +kernel
theorem dX12_signHere_123 : decode cX12_signHere 123 = .ok (.ireturn, 1) := by decide +kernel
theorem dX12_takesPart_0 : decode cX12_takesPart 0 = .ok (.aload_n 0, 1) := by decide +kernel
theorem dX12_takesPart_1 : decode cX12_takesPart 1 = .ok (.getfield 202, 3) := by decide +kernel
theorem dX12_takesPart_4 : decode cX12_takesPart 4 = .ok (.iconst 1, 1) := by decide +kernel
theorem dX12_takesPart_5 : decode cX12_takesPart 5 = .ok (.if_icmp .ne 31, 3) := by decide +kernel
theorem dX12_takesPart_8 : decode cX12_takesPart 8 = .ok (.aload_n 0, 1) := by decide +kernel
theorem dX12_takesPart_9 : decode cX12_takesPart 9 = .ok (.getfield 193, 3) := by decide +kernel
theorem dX12_takesPart_12 : decode cX12_takesPart 12 = .ok (.aload_n 0, 1) := by decide +kernel
theorem dX12_takesPart_13 : decode cX12_takesPart 13 = .ok (.getfield 196, 3) := by decide +kernel
theorem dX12_takesPart_16 : decode cX12_takesPart 16 = .ok (.isub, 1) := by decide +kernel
theorem dX12_takesPart_17 : decode cX12_takesPart 17 = .ok (.iconst 1, 1) := by decide +kernel
theorem dX12_takesPart_18 : decode cX12_takesPart 18 = .ok (.if_icmp .ne 18, 3) := by decide +kernel
theorem dX12_takesPart_21 : decode cX12_takesPart 21 = .ok (.aload_n 0, 1) := by decide +kernel
theorem dX12_takesPart_22 : decode cX12_takesPart 22 = .ok (.aload_n 0, 1) := by decide +kernel
theorem dX12_takesPart_23 : decode cX12_takesPart 23 = .ok (.getfield 208, 3) := by decide +kernel
theorem dX12_takesPart_26 : decode cX12_takesPart 26 = .ok (.invokevirtual 229, 3) := by decide +kernel
theorem dX12_takesPart_29 : decode cX12_takesPart 29 = .ok (.ifCond .lt 7, 3) := by decide +kernel
theorem dX12_takesPart_32 : decode cX12_takesPart 32 = .ok (.iconst 1, 1) := by decide +kernel
theorem dX12_takesPart_33 : decode cX12_takesPart 33 = .ok (.goto 4, 3) := by decide +kernel
theorem dX12_takesPart_36 : decode cX12_takesPart 36 = .ok (.iconst 0, 1) := by decide +kernel
theorem dX12_takesPart_37 : decode cX12_takesPart 37 = .ok (.istore_n 1, 1) := by decide +kernel
theorem dX12_takesPart_38 : decode cX12_takesPart 38 = .ok (.aload_n 0, 1) := by decide +kernel
theorem dX12_takesPart_39 : decode cX12_takesPart 39 = .ok (.getfield 202, 3) := by decide +kernel
theorem dX12_takesPart_42 : decode cX12_takesPart 42 = .ok (.iconst 2, 1) := by decide +kernel
theorem dX12_takesPart_43 : decode cX12_takesPart 43 = .ok (.if_icmp .eq 9, 3) := by decide +kernel
theorem dX12_takesPart_46 : decode cX12_takesPart 46 = .ok (.iload_n 1, 1) := by decide +kernel
theorem dX12_takesPart_47 : decode cX12_takesPart 47 = .ok (.ifCond .ne 5, 3) := by decide +kernel
theorem dX12_takesPart_50 : decode cX12_takesPart 50 = .ok (.iconst 0, 1) := by decide +kernel
theorem dX12_takesPart_51 : decode cX12_takesPart 51 = .ok (.ireturn, 1) := by decide +kernel
theorem dX12_takesPart_52 : decode cX12_takesPart 52 = .ok (.aload_n 0, 1) := by decide +kernel
theorem dX12_takesPart_53 : decode cX12_takesPart 53 = .ok (.getfield 29, 3) := by decide +kernel
theorem dX12_takesPart_56 : decode cX12_takesPart 56 = .ok (.aload_n 0, 1) := by decide +kernel
theorem dX12_takesPart_57 : decode cX12_takesPart 57 = .ok (.getfield 226, 3) := by decide +kernel
theorem dX12_takesPart_60 : decode cX12_takesPart 60 = .ok (.aload_n 0, 1) := by decide +kernel
theorem dX12_takesPart_61 : decode cX12_takesPart 61 = .ok (.getfield 202, 3) := by decide +kernel
theorem dX12_takesPart_64 : decode cX12_takesPart 64 = .ok (.iconst 2, 1) := by decide +kernel
theorem dX12_takesPart_65 : decode cX12_takesPart 65 = .ok (.if_icmp .ne 10, 3) := by decide +kernel
theorem dX12_takesPart_68 : decode cX12_takesPart 68 = .ok (.aload_n 0, 1) := by decide +kernel
theorem dX12_takesPart_69 : decode cX12_takesPart 69 = .ok (.getfield 208, 3) := by decide +kernel
theorem dX12_takesPart_72 : decode cX12_takesPart 72 = .ok (.goto 15, 3) := by decide +kernel
theorem dX12_takesPart_75 : decode cX12_takesPart 75 = .ok (.sipush 10000, 3) := by decide +kernel
theorem dX12_takesPart_78 : decode cX12_takesPart 78 = .ok (.aload_n 0, 1) := by decide +kernel
theorem dX12_takesPart_79 : decode cX12_takesPart 79 = .ok (.aload_n 0, 1) := by decide +kernel
theorem dX12_takesPart_80 : decode cX12_takesPart 80 = .ok (.getfield 208, 3) := by decide +kernel
theorem dX12_takesPart_83 : decode cX12_takesPart 83 = .ok (.invokevirtual 229, 3) := by decide +kernel
theorem dX12_takesPart_86 : decode cX12_takesPart 86 = .ok (.iadd, 1) := by decide +kernel
theorem dX12_takesPart_87 : decode cX12_takesPart 87 = .ok (.iastore, 1) := by decide +kernel
theorem dX12_takesPart_88 : decode cX12_takesPart 88 = .ok (.aload_n 0, 1) := by decide +kernel
theorem dX12_takesPart_89 : decode cX12_takesPart 89 = .ok (.dup, 1) := by decide +kernel
theorem dX12_takesPart_90 : decode cX12_takesPart 90 = .ok (.getfield 226, 3) := by decide +kernel
theorem dX12_takesPart_93 : decode cX12_takesPart 93 = .ok (.iconst 1, 1) := by decide +kernel
theorem dX12_takesPart_94 : decode cX12_takesPart 94 = .ok (.iadd, 1) := by decide +kernel
theorem dX12_takesPart_95 : decode cX12_takesPart 95 = .ok (.putfield 226, 3) := by decide +kernel
theorem dX12_takesPart_98 : decode cX12_takesPart 98 = .ok (.aload_n 0, 1) := by decide +kernel
theorem dX12_takesPart_99 : decode cX12_takesPart 99 = .ok (.dup, 1) := by decide +kernel
theorem dX12_takesPart_100 : decode cX12_takesPart 100 = .ok (.getfield 232, 3) := by decide +kernel
theorem dX12_takesPart_103 : decode cX12_takesPart 103 = .ok (.iconst 1, 1) := by decide +kernel
theorem dX12_takesPart_104 : decode cX12_takesPart 104 = .ok (.iadd, 1) := by decide +kernel
theorem dX12_takesPart_105 : decode cX12_takesPart 105 = .ok (.putfield 232, 3) := by decide +kernel
theorem dX12_takesPart_108 : decode cX12_takesPart 108 = .ok (.aload_n 0, 1) := by decide +kernel
theorem dX12_takesPart_109 : decode cX12_takesPart 109 = .ok (.bipush 6, 2) := by decide +kernel
theorem dX12_takesPart_111 : decode cX12_takesPart 111 = .ok (.invokevirtual 235, 3) := by decide +kernel
theorem dX12_takesPart_114 : decode cX12_takesPart 114 = .ok (.aload_n 0, 1) := by decide +kernel
theorem dX12_takesPart_115 : decode cX12_takesPart 115 = .ok (.invokevirtual 217, 3) := by decide +kernel
theorem dX12_takesPart_118 : decode cX12_takesPart 118 = .ok (.iconst 1, 1) := by decide +kernel
theorem dX12_takesPart_119 : decode cX12_takesPart 119 = .ok (.ireturn, 1) := by decide +kernel
theorem dX12_takesE_0 : decode cX12_takesE 0 = .ok (.iconst 0, 1) := by decide +kernel
theorem dX12_takesE_1 : decode cX12_takesE 1 = .ok (.istore_n 1, 1) := by decide +kernel
theorem dX12_takesE_2 : decode cX12_takesE 2 = .ok (.iconst 0, 1) := by decide +kernel
theorem dX12_takesE_3 : decode cX12_takesE 3 = .ok (.istore_n 2, 1) := by decide +kernel
theorem dX12_takesE_4 : decode cX12_takesE 4 = .ok (.iconst 1, 1) := by decide +kernel
theorem dX12_takesE_5 : decode cX12_takesE 5 = .ok (.istore_n 3, 1) := by decide +kernel
theorem dX12_takesE_6 : decode cX12_takesE 6 = .ok (.aload_n 0, 1) := by decide +kernel
theorem dX12_takesE_7 : decode cX12_takesE 7 = .ok (.iconst 0, 1) := by decide +kernel
theorem dX12_takesE_8 : decode cX12_takesE 8 = .ok (.putfield 226, 3) := by decide +kernel
theorem dX12_takesE_11 : decode cX12_takesE 11 = .ok (.aload_n 0, 1) := by decide +kernel
theorem dX12_takesE_12 : decode cX12_takesE 12 = .ok (.iconst 0, 1) := by decide +kernel
theorem dX12_takesE_13 : decode cX12_takesE 13 = .ok (.putfield 232, 3) := by decide +kernel
theorem dX12_takesE_16 : decode cX12_takesE 16 = .ok (.aload_n 0, 1) := by decide +kernel
theorem dX12_takesE_17 : decode cX12_takesE 17 = .ok (.iconst 0, 1) := by decide +kernel
theorem dX12_takesE_18 : decode cX12_takesE 18 = .ok (.putfield 220, 3) := by decide +kernel
theorem dX12_takesE_21 : decode cX12_takesE 21 = .ok (.aload_n 0, 1) := by decide +kernel
theorem dX12_takesE_22 : decode cX12_takesE 22 = .ok (.getfield 35, 3) := by decide +kernel
theorem dX12_takesE_25 : decode cX12_takesE 25 = .ok (.iconst 0, 1) := by decide +kernel
theorem dX12_takesE_26 : decode cX12_takesE 26 = .ok (.iconst 0, 1) := by decide +kernel
theorem dX12_takesE_27 : decode cX12_takesE 27 = .ok (.bastore, 1) := by decide +kernel
theorem dX12_takesE_28 : decode cX12_takesE 28 = .ok (.iload_n 3, 1) := by decide +kernel
theorem dX12_takesE_29 : decode cX12_takesE 29 = .ok (.ifCond .ne 10, 3) := by decide +kernel
theorem dX12_takesE_32 : decode cX12_takesE 32 = .ok (.aload_n 0, 1) := by decide +kernel
theorem dX12_takesE_33 : decode cX12_takesE 33 = .ok (.getfield 202, 3) := by decide +kernel
theorem dX12_takesE_36 : decode cX12_takesE 36 = .ok (.ifCond .eq 309, 3) := by decide +kernel
theorem dX12_takesE_39 : decode cX12_takesE 39 = .ok (.iload_n 3, 1) := by decide +kernel
theorem dX12_takesE_40 : decode cX12_takesE 40 = .ok (.ifCond .eq 140, 3) := by decide +kernel
theorem dX12_takesE_43 : decode cX12_takesE 43 = .ok (.aload_n 0, 1) := by decide +kernel
theorem dX12_takesE_44 : decode cX12_takesE 44 = .ok (.getfield 202, 3) := by decide +kernel
theorem dX12_takesE_47 : decode cX12_takesE 47 = .ok (.iconst 3, 1) := by decide +kernel
theorem dX12_takesE_48 : decode cX12_takesE 48 = .ok (.if_icmp .ne 49, 3) := by decide +kernel
theorem dX12_takesE_51 : decode cX12_takesE 51 = .ok (.aload_n 0, 1) := by decide +kernel
theorem dX12_takesE_52 : decode cX12_takesE 52 = .ok (.getfield 208, 3) := by decide +kernel
theorem dX12_takesE_55 : decode cX12_takesE 55 = .ok (.bipush 33, 2) := by decide +kernel
theorem dX12_takesE_57 : decode cX12_takesE 57 = .ok (.if_icmp .ne 40, 3) := by decide +kernel
theorem dX12_takesE_60 : decode cX12_takesE 60 = .ok (.iload_n 2, 1) := by decide +kernel
theorem dX12_takesE_61 : decode cX12_takesE 61 = .ok (.bipush 8, 2) := by decide +kernel
theorem dX12_takesE_63 : decode cX12_takesE 63 = .ok (.if_icmp .ge 34, 3) := by decide +kernel
theorem dX12_takesE_66 : decode cX12_takesE 66 = .ok (.aload_n 0, 1) := by decide +kernel
theorem dX12_takesE_67 : decode cX12_takesE 67 = .ok (.getfield 32, 3) := by decide +kernel
theorem dX12_takesE_70 : decode cX12_takesE 70 = .ok (.aload_n 0, 1) := by decide +kernel
theorem dX12_takesE_71 : decode cX12_takesE 71 = .ok (.getfield 220, 3) := by decide +kernel
theorem dX12_takesE_74 : decode cX12_takesE 74 = .ok (.bipush (-10), 2) := by decide +kernel
theorem dX12_takesE_76 : decode cX12_takesE 76 = .ok (.iastore, 1) := by decide +kernel
theorem dX12_takesE_77 : decode cX12_takesE 77 = .ok (.aload_n 0, 1) := by decide +kernel
theorem dX12_takesE_78 : decode cX12_takesE 78 = .ok (.dup, 1) := by decide +kernel
theorem dX12_takesE_79 : decode cX12_takesE 79 = .ok (.getfield 220, 3) := by decide +kernel
theorem dX12_takesE_82 : decode cX12_takesE 82 = .ok (.iconst 1, 1) := by decide +kernel
theorem dX12_takesE_83 : decode cX12_takesE 83 = .ok (.iadd, 1) := by decide +kernel
theorem dX12_takesE_84 : decode cX12_takesE 84 = .ok (.putfield 220, 3) := by decide +kernel
theorem dX12_takesE_87 : decode cX12_takesE 87 = .ok (.iinc 2 1, 3) := by decide +kernel
theorem dX12_takesE_90 : decode cX12_takesE 90 = .ok (.aload_n 0, 1) := by decide +kernel
theorem dX12_takesE_91 : decode cX12_takesE 91 = .ok (.invokevirtual 217, 3) := by decide +kernel
theorem dX12_takesE_94 : decode cX12_takesE 94 = .ok (.goto 78, 3) := by decide +kernel
theorem dX12_takesE_97 : decode cX12_takesE 97 = .ok (.aload_n 0, 1) := by decide +kernel
theorem dX12_takesE_98 : decode cX12_takesE 98 = .ok (.getfield 202, 3) := by decide +kernel
theorem dX12_takesE_101 : decode cX12_takesE 101 = .ok (.iconst 3, 1) := by decide +kernel
theorem dX12_takesE_102 : decode cX12_takesE 102 = .ok (.if_icmp .ne 56, 3) := by decide +kernel
theorem dX12_takesE_105 : decode cX12_takesE 105 = .ok (.aload_n 0, 1) := by decide +kernel
theorem dX12_takesE_106 : decode cX12_takesE 106 = .ok (.getfield 208, 3) := by decide +kernel
theorem dX12_takesE_109 : decode cX12_takesE 109 = .ok (.bipush 40, 2) := by decide +kernel
theorem dX12_takesE_111 : decode cX12_takesE 111 = .ok (.if_icmp .ne 47, 3) := by decide +kernel
theorem dX12_takesE_114 : decode cX12_takesE 114 = .ok (.iload_n 1, 1) := by decide +kernel
theorem dX12_takesE_115 : decode cX12_takesE 115 = .ok (.bipush 8, 2) := by decide +kernel
theorem dX12_takesE_117 : decode cX12_takesE 117 = .ok (.if_icmp .ge 41, 3) := by decide +kernel
theorem dX12_takesE_120 : decode cX12_takesE 120 = .ok (.aload_n 0, 1) := by decide +kernel
theorem dX12_takesE_121 : decode cX12_takesE 121 = .ok (.getfield 32, 3) := by decide +kernel
theorem dX12_takesE_124 : decode cX12_takesE 124 = .ok (.aload_n 0, 1) := by decide +kernel
theorem dX12_takesE_125 : decode cX12_takesE 125 = .ok (.getfield 220, 3) := by decide +kernel
theorem dX12_takesE_128 : decode cX12_takesE 128 = .ok (.bipush (-11), 2) := by decide +kernel
theorem dX12_takesE_130 : decode cX12_takesE 130 = .ok (.iastore, 1) := by decide +kernel
theorem dX12_takesE_131 : decode cX12_takesE 131 = .ok (.aload_n 0, 1) := by decide +kernel
theorem dX12_takesE_132 : decode cX12_takesE 132 = .ok (.dup, 1) := by decide +kernel
theorem dX12_takesE_133 : decode cX12_takesE 133 = .ok (.getfield 220, 3) := by decide +kernel
theorem dX12_takesE_136 : decode cX12_takesE 136 = .ok (.iconst 1, 1) := by decide +kernel
theorem dX12_takesE_137 : decode cX12_takesE 137 = .ok (.iadd, 1) := by decide +kernel
theorem dX12_takesE_138 : decode cX12_takesE 138 = .ok (.putfield 220, 3) := by decide +kernel
theorem dX12_takesE_141 : decode cX12_takesE 141 = .ok (.iinc 1 1, 3) := by decide +kernel
theorem dX12_takesE_144 : decode cX12_takesE 144 = .ok (.aload_n 0, 1) := by decide +kernel
theorem dX12_takesE_145 : decode cX12_takesE 145 = .ok (.getfield 35, 3) := by decide +kernel
theorem dX12_takesE_148 : decode cX12_takesE 148 = .ok (.iload_n 1, 1) := by decide +kernel
theorem dX12_takesE_149 : decode cX12_takesE 149 = .ok (.iconst 0, 1) := by decide +kernel
theorem dX12_takesE_150 : decode cX12_takesE 150 = .ok (.bastore, 1) := by decide +kernel
theorem dX12_takesE_151 : decode cX12_takesE 151 = .ok (.aload_n 0, 1) := by decide +kernel
theorem dX12_takesE_152 : decode cX12_takesE 152 = .ok (.invokevirtual 217, 3) := by decide +kernel
theorem dX12_takesE_155 : decode cX12_takesE 155 = .ok (.goto 17, 3) := by decide +kernel
theorem dX12_takesE_158 : decode cX12_takesE 158 = .ok (.aload_n 0, 1) := by decide +kernel
theorem dX12_takesE_159 : decode cX12_takesE 159 = .ok (.invokevirtual 239, 3) := by decide +kernel
theorem dX12_takesE_162 : decode cX12_takesE 162 = .ok (.ifCond .eq 8, 3) := by decide +kernel
theorem dX12_takesE_165 : decode cX12_takesE 165 = .ok (.iconst 0, 1) := by decide +kernel
theorem dX12_takesE_166 : decode cX12_takesE 166 = .ok (.istore_n 3, 1) := by decide +kernel
theorem dX12_takesE_167 : decode cX12_takesE 167 = .ok (.goto 5, 3) := by decide +kernel
theorem dX12_takesE_170 : decode cX12_takesE 170 = .ok (.iconst 0, 1) := by decide +kernel
theorem dX12_takesE_171 : decode cX12_takesE 171 = .ok (.ireturn, 1) := by decide +kernel
theorem dX12_takesE_172 : decode cX12_takesE 172 = .ok (.aload_n 0, 1) := by decide +kernel
theorem dX12_takesE_173 : decode cX12_takesE 173 = .ok (.invokevirtual 243, 3) := by decide +kernel
theorem dX12_takesE_176 : decode cX12_takesE 176 = .ok (.istore_n 2, 1) := by decide +kernel
theorem dX12_takesE_177 : decode cX12_takesE 177 = .ok (.goto (-149), 3) := by decide +kernel
theorem dX12_takesE_180 : decode cX12_takesE 180 = .ok (.aload_n 0, 1) := by decide +kernel
theorem dX12_takesE_181 : decode cX12_takesE 181 = .ok (.getfield 202, 3) := by decide +kernel
theorem dX12_takesE_184 : decode cX12_takesE 184 = .ok (.iconst 3, 1) := by decide +kernel
theorem dX12_takesE_185 : decode cX12_takesE 185 = .ok (.if_icmp .ne 52, 3) := by decide +kernel
theorem dX12_takesE_188 : decode cX12_takesE 188 = .ok (.aload_n 0, 1) := by decide +kernel
theorem dX12_takesE_189 : decode cX12_takesE 189 = .ok (.getfield 208, 3) := by decide +kernel
theorem dX12_takesE_192 : decode cX12_takesE 192 = .ok (.bipush 41, 2) := by decide +kernel
theorem dX12_takesE_194 : decode cX12_takesE 194 = .ok (.if_icmp .ne 43, 3) := by decide +kernel
theorem dX12_takesE_197 : decode cX12_takesE 197 = .ok (.iload_n 1, 1) := by decide +kernel
theorem dX12_takesE_198 : decode cX12_takesE 198 = .ok (.ifCond .le 39, 3) := by decide +kernel
theorem dX12_takesE_201 : decode cX12_takesE 201 = .ok (.aload_n 0, 1) := by decide +kernel
theorem dX12_takesE_202 : decode cX12_takesE 202 = .ok (.iconst 0, 1) := by decide +kernel
theorem dX12_takesE_203 : decode cX12_takesE 203 = .ok (.invokevirtual 235, 3) := by decide +kernel
theorem dX12_takesE_206 : decode cX12_takesE 206 = .ok (.aload_n 0, 1) := by decide +kernel
theorem dX12_takesE_207 : decode cX12_takesE 207 = .ok (.dup, 1) := by decide +kernel
theorem dX12_takesE_208 : decode cX12_takesE 208 = .ok (.getfield 220, 3) := by decide +kernel
theorem dX12_takesE_211 : decode cX12_takesE 211 = .ok (.iconst 1, 1) := by decide +kernel
theorem dX12_takesE_212 : decode cX12_takesE 212 = .ok (.isub, 1) := by decide +kernel
theorem dX12_takesE_213 : decode cX12_takesE 213 = .ok (.putfield 220, 3) := by decide +kernel
theorem dX12_takesE_216 : decode cX12_takesE 216 = .ok (.iinc 1 (-1), 3) := by decide +kernel
theorem dX12_takesE_219 : decode cX12_takesE 219 = .ok (.aload_n 0, 1) := by decide +kernel
theorem dX12_takesE_220 : decode cX12_takesE 220 = .ok (.bipush 6, 2) := by decide +kernel
theorem dX12_takesE_222 : decode cX12_takesE 222 = .ok (.invokevirtual 235, 3) := by decide +kernel
theorem dX12_takesE_225 : decode cX12_takesE 225 = .ok (.aload_n 0, 1) := by decide +kernel
theorem dX12_takesE_226 : decode cX12_takesE 226 = .ok (.invokevirtual 243, 3) := by decide +kernel
theorem dX12_takesE_229 : decode cX12_takesE 229 = .ok (.istore_n 2, 1) := by decide +kernel
theorem dX12_takesE_230 : decode cX12_takesE 230 = .ok (.aload_n 0, 1) := by decide +kernel
theorem dX12_takesE_231 : decode cX12_takesE 231 = .ok (.invokevirtual 217, 3) := by decide +kernel
theorem dX12_takesE_234 : decode cX12_takesE 234 = .ok (.goto (-206), 3) := by decide +kernel
theorem dX12_takesE_237 : decode cX12_takesE 237 = .ok (.aload_n 0, 1) := by decide +kernel
theorem dX12_takesE_238 : decode cX12_takesE 238 = .ok (.invokevirtual 246, 3) := by decide +kernel
theorem dX12_takesE_241 : decode cX12_takesE 241 = .ok (.istore 4, 2) := by decide +kernel
theorem dX12_takesE_243 : decode cX12_takesE 243 = .ok (.iload 4, 2) := by decide +kernel
theorem dX12_takesE_245 : decode cX12_takesE 245 = .ok (.ifCond .eq 21, 3) := by decide +kernel
theorem dX12_takesE_248 : decode cX12_takesE 248 = .ok (.iload 4, 2) := by decide +kernel
theorem dX12_takesE_250 : decode cX12_takesE 250 = .ok (.invokestatic 223, 3) := by decide +kernel
theorem dX12_takesE_253 : decode cX12_takesE 253 = .ok (.iconst 3, 1) := by decide +kernel
theorem dX12_takesE_254 : decode cX12_takesE 254 = .ok (.if_icmp .ne 14, 3) := by decide +kernel
theorem dX12_takesE_257 : decode cX12_takesE 257 = .ok (.aload_n 0, 1) := by decide +kernel
theorem dX12_takesE_258 : decode cX12_takesE 258 = .ok (.getfield 35, 3) := by decide +kernel
theorem dX12_takesE_261 : decode cX12_takesE 261 = .ok (.iload_n 1, 1) := by decide +kernel
theorem dX12_takesE_262 : decode cX12_takesE 262 = .ok (.baload, 1) := by decide +kernel
theorem dX12_takesE_263 : decode cX12_takesE 263 = .ok (.ifCond .eq 5, 3) := by decide +kernel
theorem dX12_takesE_266 : decode cX12_takesE 266 = .ok (.iconst 0, 1) := by decide +kernel
theorem dX12_takesE_267 : decode cX12_takesE 267 = .ok (.ireturn, 1) := by decide +kernel
theorem dX12_takesE_268 : decode cX12_takesE 268 = .ok (.aload_n 0, 1) := by decide +kernel
theorem dX12_takesE_269 : decode cX12_takesE 269 = .ok (.getfield 35, 3) := by decide +kernel
theorem dX12_takesE_272 : decode cX12_takesE 272 = .ok (.iload_n 1, 1) := by decide +kernel
theorem dX12_takesE_273 : decode cX12_takesE 273 = .ok (.iload 4, 2) := by decide +kernel
theorem dX12_takesE_275 : decode cX12_takesE 275 = .ok (.invokestatic 223, 3) := by decide +kernel
theorem dX12_takesE_278 : decode cX12_takesE 278 = .ok (.iconst 3, 1) := by decide +kernel
theorem dX12_takesE_279 : decode cX12_takesE 279 = .ok (.if_icmp .eq 21, 3) := by decide +kernel
theorem dX12_takesE_282 : decode cX12_takesE 282 = .ok (.iload 4, 2) := by decide +kernel
theorem dX12_takesE_284 : decode cX12_takesE 284 = .ok (.invokestatic 223, 3) := by decide +kernel
theorem dX12_takesE_287 : decode cX12_takesE 287 = .ok (.iconst 3, 1) := by decide +kernel
theorem dX12_takesE_288 : decode cX12_takesE 288 = .ok (.if_icmp .le 16, 3) := by decide +kernel
theorem dX12_takesE_291 : decode cX12_takesE 291 = .ok (.aload_n 0, 1) := by decide +kernel
theorem dX12_takesE_292 : decode cX12_takesE 292 = .ok (.getfield 35, 3) := by decide +kernel
theorem dX12_takesE_295 : decode cX12_takesE 295 = .ok (.iload_n 1, 1) := by decide +kernel
theorem dX12_takesE_296 : decode cX12_takesE 296 = .ok (.baload, 1) := by decide +kernel
theorem dX12_takesE_297 : decode cX12_takesE 297 = .ok (.ifCond .eq 7, 3) := by decide +kernel
theorem dX12_takesE_300 : decode cX12_takesE 300 = .ok (.iconst 1, 1) := by decide +kernel
theorem dX12_takesE_301 : decode cX12_takesE 301 = .ok (.goto 4, 3) := by decide +kernel
theorem dX12_takesE_304 : decode cX12_takesE 304 = .ok (.iconst 0, 1) := by decide +kernel
theorem dX12_takesE_305 : decode cX12_takesE 305 = .ok (.bastore, 1) := by decide +kernel
theorem dX12_takesE_306 : decode cX12_takesE 306 = .ok (.aload_n 0, 1) := by decide +kernel
theorem dX12_takesE_307 : decode cX12_takesE 307 = .ok (.iload 4, 2) := by decide +kernel
theorem dX12_takesE_309 : decode cX12_takesE 309 = .ok (.invokestatic 223, 3) := by decide +kernel
theorem dX12_takesE_312 : decode cX12_takesE 312 = .ok (.invokevirtual 235, 3) := by decide +kernel
theorem dX12_takesE_315 : decode cX12_takesE 315 = .ok (.aload_n 0, 1) := by decide +kernel
theorem dX12_takesE_316 : decode cX12_takesE 316 = .ok (.getfield 32, 3) := by decide +kernel
theorem dX12_takesE_319 : decode cX12_takesE 319 = .ok (.aload_n 0, 1) := by decide +kernel
theorem dX12_takesE_320 : decode cX12_takesE 320 = .ok (.getfield 220, 3) := by decide +kernel
theorem dX12_takesE_323 : decode cX12_takesE 323 = .ok (.iload 4, 2) := by decide +kernel
theorem dX12_takesE_325 : decode cX12_takesE 325 = .ok (.iastore, 1) := by decide +kernel
theorem dX12_takesE_326 : decode cX12_takesE 326 = .ok (.aload_n 0, 1) := by decide +kernel
theorem dX12_takesE_327 : decode cX12_takesE 327 = .ok (.dup, 1) := by decide +kernel
theorem dX12_takesE_328 : decode cX12_takesE 328 = .ok (.getfield 220, 3) := by decide +kernel
theorem dX12_takesE_331 : decode cX12_takesE 331 = .ok (.iconst 1, 1) := by decide +kernel
theorem dX12_takesE_332 : decode cX12_takesE 332 = .ok (.iadd, 1) := by decide +kernel
theorem dX12_takesE_333 : decode cX12_takesE 333 = .ok (.putfield 220, 3) := by decide +kernel
theorem dX12_takesE_336 : decode cX12_takesE 336 = .ok (.iconst 1, 1) := by decide +kernel
theorem dX12_takesE_337 : decode cX12_takesE 337 = .ok (.istore_n 3, 1) := by decide +kernel
theorem dX12_takesE_338 : decode cX12_takesE 338 = .ok (.aload_n 0, 1) := by decide +kernel
theorem dX12_takesE_339 : decode cX12_takesE 339 = .ok (.invokevirtual 217, 3) := by decide +kernel
theorem dX12_takesE_342 : decode cX12_takesE 342 = .ok (.goto (-314), 3) := by decide +kernel
theorem dX12_takesE_345 : decode cX12_takesE 345 = .ok (.aload_n 0, 1) := by decide +kernel
theorem dX12_takesE_346 : decode cX12_takesE 346 = .ok (.iconst 0, 1) := by decide +kernel
theorem dX12_takesE_347 : decode cX12_takesE 347 = .ok (.invokevirtual 235, 3) := by decide +kernel
theorem dX12_takesE_350 : decode cX12_takesE 350 = .ok (.iload_n 1, 1) := by decide +kernel
theorem dX12_takesE_351 : decode cX12_takesE 351 = .ok (.ifCond .ne 7, 3) := by decide +kernel
theorem dX12_takesE_354 : decode cX12_takesE 354 = .ok (.iconst 1, 1) := by decide +kernel
theorem dX12_takesE_355 : decode cX12_takesE 355 = .ok (.goto 4, 3) := by decide +kernel
theorem dX12_takesE_358 : decode cX12_takesE 358 = .ok (.iconst 0, 1) := by decide +kernel
theorem dX12_takesE_359 : decode cX12_takesE 359 = .ok (.ireturn, 1) := by decide +kernel
theorem dX12_notsOpen_0 : decode cX12_notsOpen 0 = .ok (.iconst 0, 1) := by decide +kernel
theorem dX12_notsOpen_1 : decode cX12_notsOpen 1 = .ok (.istore_n 1, 1) := by decide +kernel
theorem dX12_notsOpen_2 : decode cX12_notsOpen 2 = .ok (.iconst 0, 1) := by decide +kernel
theorem dX12_notsOpen_3 : decode cX12_notsOpen 3 = .ok (.istore_n 2, 1) := by decide +kernel
theorem dX12_notsOpen_4 : decode cX12_notsOpen 4 = .ok (.iload_n 2, 1) := by decide +kernel
theorem dX12_notsOpen_5 : decode cX12_notsOpen 5 = .ok (.aload_n 0, 1) := by decide +kernel
theorem dX12_notsOpen_6 : decode cX12_notsOpen 6 = .ok (.getfield 220, 3) := by decide +kernel
theorem dX12_notsOpen_9 : decode cX12_notsOpen 9 = .ok (.if_icmp .ge 28, 3) := by decide +kernel
theorem dX12_notsOpen_12 : decode cX12_notsOpen 12 = .ok (.iload_n 1, 1) := by decide +kernel
theorem dX12_notsOpen_13 : decode cX12_notsOpen 13 = .ok (.aload_n 0, 1) := by decide +kernel
theorem dX12_notsOpen_14 : decode cX12_notsOpen 14 = .ok (.getfield 32, 3) := by decide +kernel
theorem dX12_notsOpen_17 : decode cX12_notsOpen 17 = .ok (.iload_n 2, 1) := by decide +kernel
theorem dX12_notsOpen_18 : decode cX12_notsOpen 18 = .ok (.iaload, 1) := by decide +kernel
theorem dX12_notsOpen_19 : decode cX12_notsOpen 19 = .ok (.bipush (-10), 2) := by decide +kernel
theorem dX12_notsOpen_21 : decode cX12_notsOpen 21 = .ok (.if_icmp .ne 7, 3) := by decide +kernel
theorem dX12_notsOpen_24 : decode cX12_notsOpen 24 = .ok (.iconst 1, 1) := by decide +kernel
theorem dX12_notsOpen_25 : decode cX12_notsOpen 25 = .ok (.goto 4, 3) := by decide +kernel
theorem dX12_notsOpen_28 : decode cX12_notsOpen 28 = .ok (.iconst 0, 1) := by decide +kernel
theorem dX12_notsOpen_29 : decode cX12_notsOpen 29 = .ok (.iadd, 1) := by decide +kernel
theorem dX12_notsOpen_30 : decode cX12_notsOpen 30 = .ok (.istore_n 1, 1) := by decide +kernel
theorem dX12_notsOpen_31 : decode cX12_notsOpen 31 = .ok (.iinc 2 1, 3) := by decide +kernel
theorem dX12_notsOpen_34 : decode cX12_notsOpen 34 = .ok (.goto (-30), 3) := by decide +kernel
theorem dX12_notsOpen_37 : decode cX12_notsOpen 37 = .ok (.iload_n 1, 1) := by decide +kernel
theorem dX12_notsOpen_38 : decode cX12_notsOpen 38 = .ok (.ireturn, 1) := by decide +kernel
theorem dX12_text_0 : decode cX12_text 0 = .ok (.aload_n 0, 1) := by decide +kernel
theorem dX12_text_1 : decode cX12_text 1 = .ok (.iconst 0, 1) := by decide +kernel
theorem dX12_text_2 : decode cX12_text 2 = .ok (.putfield 193, 3) := by decide +kernel
theorem dX12_text_5 : decode cX12_text 5 = .ok (.aload_n 0, 1) := by decide +kernel
theorem dX12_text_6 : decode cX12_text 6 = .ok (.iconst (-1), 1) := by decide +kernel
theorem dX12_text_7 : decode cX12_text 7 = .ok (.putfield 199, 3) := by decide +kernel
theorem dX12_text_10 : decode cX12_text 10 = .ok (.aload_n 0, 1) := by decide +kernel
theorem dX12_text_11 : decode cX12_text 11 = .ok (.invokevirtual 217, 3) := by decide +kernel
theorem dX12_text_14 : decode cX12_text 14 = .ok (.aload_n 0, 1) := by decide +kernel
theorem dX12_text_15 : decode cX12_text 15 = .ok (.invokevirtual 249, 3) := by decide +kernel
theorem dX12_text_18 : decode cX12_text 18 = .ok (.ifCond .eq 14, 3) := by decide +kernel
theorem dX12_text_21 : decode cX12_text 21 = .ok (.aload_n 0, 1) := by decide +kernel
theorem dX12_text_22 : decode cX12_text 22 = .ok (.invokevirtual 252, 3) := by decide +kernel
theorem dX12_text_25 : decode cX12_text 25 = .ok (.ifCond .eq 7, 3) := by decide +kernel
theorem dX12_text_28 : decode cX12_text 28 = .ok (.iconst 1, 1) := by decide +kernel
theorem dX12_text_29 : decode cX12_text 29 = .ok (.goto 4, 3) := by decide +kernel
theorem dX12_text_32 : decode cX12_text 32 = .ok (.iconst 0, 1) := by decide +kernel
theorem dX12_text_33 : decode cX12_text 33 = .ok (.istore_n 1, 1) := by decide +kernel
theorem dX12_text_34 : decode cX12_text 34 = .ok (.aload_n 0, 1) := by decide +kernel
theorem dX12_text_35 : decode cX12_text 35 = .ok (.iconst 0, 1) := by decide +kernel
theorem dX12_text_36 : decode cX12_text 36 = .ok (.putfield 189, 3) := by decide +kernel
theorem dX12_text_39 : decode cX12_text 39 = .ok (.iload_n 1, 1) := by decide +kernel
theorem dX12_text_40 : decode cX12_text 40 = .ok (.ifCond .ne 11, 3) := by decide +kernel
theorem dX12_text_43 : decode cX12_text 43 = .ok (.bipush (-100), 2) := by decide +kernel
theorem dX12_text_45 : decode cX12_text 45 = .ok (.aload_n 0, 1) := by decide +kernel
theorem dX12_text_46 : decode cX12_text 46 = .ok (.getfield 196, 3) := by decide +kernel
theorem dX12_text_49 : decode cX12_text 49 = .ok (.isub, 1) := by decide +kernel
theorem dX12_text_50 : decode cX12_text 50 = .ok (.ireturn, 1) := by decide +kernel
theorem dX12_text_51 : decode cX12_text 51 = .ok (.aload_n 0, 1) := by decide +kernel
theorem dX12_text_52 : decode cX12_text 52 = .ok (.getfield 9, 3) := by decide +kernel
theorem dX12_text_55 : decode cX12_text 55 = .ok (.bipush 7, 2) := by decide +kernel
theorem dX12_text_57 : decode cX12_text 57 = .ok (.iaload, 1) := by decide +kernel
theorem dX12_text_58 : decode cX12_text 58 = .ok (.bipush 14, 2) := by decide +kernel
theorem dX12_text_60 : decode cX12_text 60 = .ok (.if_icmp .ne 6, 3) := by decide +kernel
theorem dX12_text_63 : decode cX12_text 63 = .ok (.ldc 79, 2) := by decide +kernel
theorem dX12_text_65 : decode cX12_text 65 = .ok (.ireturn, 1) := by decide +kernel
theorem dX12_text_66 : decode cX12_text 66 = .ok (.aload_n 0, 1) := by decide +kernel
theorem dX12_text_67 : decode cX12_text 67 = .ok (.getfield 9, 3) := by decide +kernel
theorem dX12_text_70 : decode cX12_text 70 = .ok (.bipush 7, 2) := by decide +kernel
theorem dX12_text_72 : decode cX12_text 72 = .ok (.iaload, 1) := by decide +kernel
theorem dX12_text_73 : decode cX12_text 73 = .ok (.istore_n 2, 1) := by decide +kernel
theorem dX12_text_74 : decode cX12_text 74 = .ok (.aload_n 0, 1) := by decide +kernel
theorem dX12_text_75 : decode cX12_text 75 = .ok (.getfield 9, 3) := by decide +kernel
theorem dX12_text_78 : decode cX12_text 78 = .ok (.bipush 110, 2) := by decide +kernel
theorem dX12_text_80 : decode cX12_text 80 = .ok (.iconst 2, 1) := by decide +kernel
theorem dX12_text_81 : decode cX12_text 81 = .ok (.iload_n 2, 1) := by decide +kernel
theorem dX12_text_82 : decode cX12_text 82 = .ok (.imul, 1) := by decide +kernel
theorem dX12_text_83 : decode cX12_text 83 = .ok (.iadd, 1) := by decide +kernel
theorem dX12_text_84 : decode cX12_text 84 = .ok (.sipush 1000, 3) := by decide +kernel
theorem dX12_text_87 : decode cX12_text 87 = .ok (.aload_n 0, 1) := by decide +kernel
theorem dX12_text_88 : decode cX12_text 88 = .ok (.getfield 214, 3) := by decide +kernel
theorem dX12_text_91 : decode cX12_text 91 = .ok (.imul, 1) := by decide +kernel
theorem dX12_text_92 : decode cX12_text 92 = .ok (.aload_n 0, 1) := by decide +kernel
theorem dX12_text_93 : decode cX12_text 93 = .ok (.getfield 226, 3) := by decide +kernel
theorem dX12_text_96 : decode cX12_text 96 = .ok (.iadd, 1) := by decide +kernel
theorem dX12_text_97 : decode cX12_text 97 = .ok (.iastore, 1) := by decide +kernel
theorem dX12_text_98 : decode cX12_text 98 = .ok (.aload_n 0, 1) := by decide +kernel
theorem dX12_text_99 : decode cX12_text 99 = .ok (.getfield 9, 3) := by decide +kernel
theorem dX12_text_102 : decode cX12_text 102 = .ok (.bipush 110, 2) := by decide +kernel
theorem dX12_text_104 : decode cX12_text 104 = .ok (.iconst 2, 1) := by decide +kernel
theorem dX12_text_105 : decode cX12_text 105 = .ok (.iload_n 2, 1) := by decide +kernel
theorem dX12_text_106 : decode cX12_text 106 = .ok (.imul, 1) := by decide +kernel
theorem dX12_text_107 : decode cX12_text 107 = .ok (.iadd, 1) := by decide +kernel
theorem dX12_text_108 : decode cX12_text 108 = .ok (.iconst 1, 1) := by decide +kernel
theorem dX12_text_109 : decode cX12_text 109 = .ok (.iadd, 1) := by decide +kernel
theorem dX12_text_110 : decode cX12_text 110 = .ok (.aload_n 0, 1) := by decide +kernel
theorem dX12_text_111 : decode cX12_text 111 = .ok (.getfield 232, 3) := by decide +kernel
theorem dX12_text_114 : decode cX12_text 114 = .ok (.iastore, 1) := by decide +kernel
theorem dX12_text_115 : decode cX12_text 115 = .ok (.iconst 0, 1) := by decide +kernel
theorem dX12_text_116 : decode cX12_text 116 = .ok (.istore_n 3, 1) := by decide +kernel
theorem dX12_text_117 : decode cX12_text 117 = .ok (.iload_n 3, 1) := by decide +kernel
theorem dX12_text_118 : decode cX12_text 118 = .ok (.aload_n 0, 1) := by decide +kernel
theorem dX12_text_119 : decode cX12_text 119 = .ok (.getfield 226, 3) := by decide +kernel
theorem dX12_text_122 : decode cX12_text 122 = .ok (.if_icmp .ge 30, 3) := by decide +kernel
theorem dX12_text_125 : decode cX12_text 125 = .ok (.aload_n 0, 1) := by decide +kernel
theorem dX12_text_126 : decode cX12_text 126 = .ok (.getfield 9, 3) := by decide +kernel
theorem dX12_text_129 : decode cX12_text 129 = .ok (.sipush 138, 3) := by decide +kernel
theorem dX12_text_132 : decode cX12_text 132 = .ok (.bipush 96, 2) := by decide +kernel
theorem dX12_text_134 : decode cX12_text 134 = .ok (.iload_n 2, 1) := by decide +kernel
theorem dX12_text_135 : decode cX12_text 135 = .ok (.imul, 1) := by decide +kernel
theorem dX12_text_136 : decode cX12_text 136 = .ok (.iadd, 1) := by decide +kernel
theorem dX12_text_137 : decode cX12_text 137 = .ok (.iload_n 3, 1) := by decide +kernel
theorem dX12_text_138 : decode cX12_text 138 = .ok (.iadd, 1) := by decide +kernel
theorem dX12_text_139 : decode cX12_text 139 = .ok (.aload_n 0, 1) := by decide +kernel
theorem dX12_text_140 : decode cX12_text 140 = .ok (.getfield 29, 3) := by decide +kernel
theorem dX12_text_143 : decode cX12_text 143 = .ok (.iload_n 3, 1) := by decide +kernel
theorem dX12_text_144 : decode cX12_text 144 = .ok (.iaload, 1) := by decide +kernel
theorem dX12_text_145 : decode cX12_text 145 = .ok (.iastore, 1) := by decide +kernel
theorem dX12_text_146 : decode cX12_text 146 = .ok (.iinc 3 1, 3) := by decide +kernel
theorem dX12_text_149 : decode cX12_text 149 = .ok (.goto (-32), 3) := by decide +kernel
theorem dX12_text_152 : decode cX12_text 152 = .ok (.aload_n 0, 1) := by decide +kernel
theorem dX12_text_153 : decode cX12_text 153 = .ok (.getfield 9, 3) := by decide +kernel
theorem dX12_text_156 : decode cX12_text 156 = .ok (.bipush 7, 2) := by decide +kernel
theorem dX12_text_158 : decode cX12_text 158 = .ok (.dup2, 1) := by decide +kernel
theorem dX12_text_159 : decode cX12_text 159 = .ok (.iaload, 1) := by decide +kernel
theorem dX12_text_160 : decode cX12_text 160 = .ok (.iconst 1, 1) := by decide +kernel
theorem dX12_text_161 : decode cX12_text 161 = .ok (.iadd, 1) := by decide +kernel
theorem dX12_text_162 : decode cX12_text 162 = .ok (.iastore, 1) := by decide +kernel
theorem dX12_text_163 : decode cX12_text 163 = .ok (.iload_n 2, 1) := by decide +kernel
theorem dX12_text_164 : decode cX12_text 164 = .ok (.ireturn, 1) := by decide +kernel
theorem dX12_textTold_0 : decode cX12_textTold 0 = .ok (.iload_n 1, 1) := by decide +kernel
theorem dX12_textTold_1 : decode cX12_textTold 1 = .ok (.iconst 0, 1) := by decide +kernel
theorem dX12_textTold_2 : decode cX12_textTold 2 = .ok (.aload_n 0, 1) := by decide +kernel
theorem dX12_textTold_3 : decode cX12_textTold 3 = .ok (.getfield 9, 3) := by decide +kernel
theorem dX12_textTold_6 : decode cX12_textTold 6 = .ok (.bipush 7, 2) := by decide +kernel
theorem dX12_textTold_8 : decode cX12_textTold 8 = .ok (.iaload, 1) := by decide +kernel
theorem dX12_textTold_9 : decode cX12_textTold 9 = .ok (.iconst 1, 1) := by decide +kernel
theorem dX12_textTold_10 : decode cX12_textTold 10 = .ok (.isub, 1) := by decide +kernel
theorem dX12_textTold_11 : decode cX12_textTold 11 = .ok (.invokestatic 73, 3) := by decide +kernel
theorem dX12_textTold_14 : decode cX12_textTold 14 = .ok (.ifCond .eq 12, 3) := by decide +kernel
theorem dX12_textTold_17 : decode cX12_textTold 17 = .ok (.iload_n 2, 1) := by decide +kernel
theorem dX12_textTold_18 : decode cX12_textTold 18 = .ok (.iconst 0, 1) := by decide +kernel
theorem dX12_textTold_19 : decode cX12_textTold 19 = .ok (.iconst 1, 1) := by decide +kernel
theorem dX12_textTold_20 : decode cX12_textTold 20 = .ok (.invokestatic 73, 3) := by decide +kernel
theorem dX12_textTold_23 : decode cX12_textTold 23 = .ok (.ifCond .ne 6, 3) := by decide +kernel
theorem dX12_textTold_26 : decode cX12_textTold 26 = .ok (.ldc 78, 2) := by decide +kernel
theorem dX12_textTold_28 : decode cX12_textTold 28 = .ok (.ireturn, 1) := by decide +kernel
theorem dX12_textTold_29 : decode cX12_textTold 29 = .ok (.iload_n 2, 1) := by decide +kernel
theorem dX12_textTold_30 : decode cX12_textTold 30 = .ok (.ifCond .ne 21, 3) := by decide +kernel
theorem dX12_textTold_33 : decode cX12_textTold 33 = .ok (.aload_n 0, 1) := by decide +kernel
theorem dX12_textTold_34 : decode cX12_textTold 34 = .ok (.getfield 9, 3) := by decide +kernel
theorem dX12_textTold_37 : decode cX12_textTold 37 = .ok (.bipush 110, 2) := by decide +kernel
theorem dX12_textTold_39 : decode cX12_textTold 39 = .ok (.iconst 2, 1) := by decide +kernel
theorem dX12_textTold_40 : decode cX12_textTold 40 = .ok (.iload_n 1, 1) := by decide +kernel
theorem dX12_textTold_41 : decode cX12_textTold 41 = .ok (.imul, 1) := by decide +kernel
theorem dX12_textTold_42 : decode cX12_textTold 42 = .ok (.iadd, 1) := by decide +kernel
theorem dX12_textTold_43 : decode cX12_textTold 43 = .ok (.iaload, 1) := by decide +kernel
theorem dX12_textTold_44 : decode cX12_textTold 44 = .ok (.sipush 1000, 3) := by decide +kernel
theorem dX12_textTold_47 : decode cX12_textTold 47 = .ok (.idiv, 1) := by decide +kernel
theorem dX12_textTold_48 : decode cX12_textTold 48 = .ok (.goto 16, 3) := by decide +kernel
theorem dX12_textTold_51 : decode cX12_textTold 51 = .ok (.aload_n 0, 1) := by decide +kernel
theorem dX12_textTold_52 : decode cX12_textTold 52 = .ok (.getfield 9, 3) := by decide +kernel
theorem dX12_textTold_55 : decode cX12_textTold 55 = .ok (.bipush 110, 2) := by decide +kernel
theorem dX12_textTold_57 : decode cX12_textTold 57 = .ok (.iconst 2, 1) := by decide +kernel
theorem dX12_textTold_58 : decode cX12_textTold 58 = .ok (.iload_n 1, 1) := by decide +kernel
theorem dX12_textTold_59 : decode cX12_textTold 59 = .ok (.imul, 1) := by decide +kernel
theorem dX12_textTold_60 : decode cX12_textTold 60 = .ok (.iadd, 1) := by decide +kernel
theorem dX12_textTold_61 : decode cX12_textTold 61 = .ok (.iconst 1, 1) := by decide +kernel
theorem dX12_textTold_62 : decode cX12_textTold 62 = .ok (.iadd, 1) := by decide +kernel
theorem dX12_textTold_63 : decode cX12_textTold 63 = .ok (.iaload, 1) := by decide +kernel
theorem dX12_textTold_64 : decode cX12_textTold 64 = .ok (.ireturn, 1) := by decide +kernel
theorem dX12_counts_0 : decode cX12_counts 0 = .ok (.aload_n 0, 1) := by decide +kernel
theorem dX12_counts_1 : decode cX12_counts 1 = .ok (.getfield 9, 3) := by decide +kernel
theorem dX12_counts_4 : decode cX12_counts 4 = .ok (.bipush 7, 2) := by decide +kernel
theorem dX12_counts_6 : decode cX12_counts 6 = .ok (.iaload, 1) := by decide +kernel
theorem dX12_counts_7 : decode cX12_counts 7 = .ok (.iconst 1, 1) := by decide +kernel
theorem dX12_counts_8 : decode cX12_counts 8 = .ok (.isub, 1) := by decide +kernel
theorem dX12_counts_9 : decode cX12_counts 9 = .ok (.istore_n 2, 1) := by decide +kernel
theorem dX12_counts_10 : decode cX12_counts 10 = .ok (.iload_n 2, 1) := by decide +kernel
theorem dX12_counts_11 : decode cX12_counts 11 = .ok (.ifCond .lt 30, 3) := by decide +kernel
theorem dX12_counts_14 : decode cX12_counts 14 = .ok (.aload_n 0, 1) := by decide +kernel
theorem dX12_counts_15 : decode cX12_counts 15 = .ok (.getfield 9, 3) := by decide +kernel
theorem dX12_counts_18 : decode cX12_counts 18 = .ok (.bipush 110, 2) := by decide +kernel
theorem dX12_counts_20 : decode cX12_counts 20 = .ok (.iconst 2, 1) := by decide +kernel
theorem dX12_counts_21 : decode cX12_counts 21 = .ok (.iload_n 2, 1) := by decide +kernel
theorem dX12_counts_22 : decode cX12_counts 22 = .ok (.imul, 1) := by decide +kernel
theorem dX12_counts_23 : decode cX12_counts 23 = .ok (.iadd, 1) := by decide +kernel
theorem dX12_counts_24 : decode cX12_counts 24 = .ok (.iaload, 1) := by decide +kernel
theorem dX12_counts_25 : decode cX12_counts 25 = .ok (.sipush 1000, 3) := by decide +kernel
theorem dX12_counts_28 : decode cX12_counts 28 = .ok (.idiv, 1) := by decide +kernel
theorem dX12_counts_29 : decode cX12_counts 29 = .ok (.iload_n 1, 1) := by decide +kernel
theorem dX12_counts_30 : decode cX12_counts 30 = .ok (.if_icmp .ne 5, 3) := by decide +kernel
theorem dX12_counts_33 : decode cX12_counts 33 = .ok (.iload_n 2, 1) := by decide +kernel
theorem dX12_counts_34 : decode cX12_counts 34 = .ok (.ireturn, 1) := by decide +kernel
theorem dX12_counts_35 : decode cX12_counts 35 = .ok (.iinc 2 (-1), 3) := by decide +kernel
theorem dX12_counts_38 : decode cX12_counts 38 = .ok (.goto (-28), 3) := by decide +kernel
theorem dX12_counts_41 : decode cX12_counts 41 = .ok (.iconst (-1), 1) := by decide +kernel
theorem dX12_counts_42 : decode cX12_counts 42 = .ok (.ireturn, 1) := by decide +kernel
theorem dX12_why_0 : decode cX12_why 0 = .ok (.iload_n 1, 1) := by decide +kernel
theorem dX12_why_1 : decode cX12_why 1 = .ok (.iconst 0, 1) := by decide +kernel
theorem dX12_why_2 : decode cX12_why 2 = .ok (.iconst 2, 1) := by decide +kernel
theorem dX12_why_3 : decode cX12_why 3 = .ok (.invokestatic 73, 3) := by decide +kernel
theorem dX12_why_6 : decode cX12_why 6 = .ok (.ifCond .ne 6, 3) := by decide +kernel
theorem dX12_why_9 : decode cX12_why 9 = .ok (.ldc 78, 2) := by decide +kernel
theorem dX12_why_11 : decode cX12_why 11 = .ok (.ireturn, 1) := by decide +kernel
theorem dX12_why_12 : decode cX12_why 12 = .ok (.aload_n 0, 1) := by decide +kernel
theorem dX12_why_13 : decode cX12_why 13 = .ok (.iload_n 1, 1) := by decide +kernel
