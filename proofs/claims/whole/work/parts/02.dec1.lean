theorem dX11_change_20 : decode cX11_change 20 = .ok (.iload_n 3, 1) := by decide +kernel
theorem dX11_change_21 : decode cX11_change 21 = .ok (.iconst 0, 1) := by decide +kernel
theorem dX11_change_22 : decode cX11_change 22 = .ok (.bipush 100, 2) := by decide +kernel
theorem dX11_change_24 : decode cX11_change 24 = .ok (.invokestatic 55, 3) := by decide +kernel
theorem dX11_change_27 : decode cX11_change 27 = .ok (.ifCond .ne 6, 3) := by decide +kernel
theorem dX11_change_30 : decode cX11_change 30 = .ok (.ldc 59, 2) := by decide +kernel
theorem dX11_change_32 : decode cX11_change 32 = .ok (.ireturn, 1) := by decide +kernel
theorem dX11_change_33 : decode cX11_change 33 = .ok (.iload_n 2, 1) := by decide +kernel
theorem dX11_change_34 : decode cX11_change 34 = .ok (.ifCond .ne 13, 3) := by decide +kernel
theorem dX11_change_37 : decode cX11_change 37 = .ok (.aload_n 0, 1) := by decide +kernel
theorem dX11_change_38 : decode cX11_change 38 = .ok (.getfield 10, 3) := by decide +kernel
theorem dX11_change_41 : decode cX11_change 41 = .ok (.getfield 68, 3) := by decide +kernel
theorem dX11_change_44 : decode cX11_change 44 = .ok (.goto 10, 3) := by decide +kernel
theorem dX11_change_47 : decode cX11_change 47 = .ok (.aload_n 0, 1) := by decide +kernel
theorem dX11_change_48 : decode cX11_change 48 = .ok (.getfield 10, 3) := by decide +kernel
theorem dX11_change_51 : decode cX11_change 51 = .ok (.getfield 71, 3) := by decide +kernel
theorem dX11_change_54 : decode cX11_change 54 = .ok (.astore 4, 2) := by decide +kernel
theorem dX11_change_56 : decode cX11_change 56 = .ok (.aload 4, 2) := by decide +kernel
theorem dX11_change_58 : decode cX11_change 58 = .ok (.iload_n 1, 1) := by decide +kernel
theorem dX11_change_59 : decode cX11_change 59 = .ok (.iaload, 1) := by decide +kernel
theorem dX11_change_60 : decode cX11_change 60 = .ok (.istore 5, 2) := by decide +kernel
theorem dX11_change_62 : decode cX11_change 62 = .ok (.aload 4, 2) := by decide +kernel
theorem dX11_change_64 : decode cX11_change 64 = .ok (.iload_n 1, 1) := by decide +kernel
theorem dX11_change_65 : decode cX11_change 65 = .ok (.iload_n 3, 1) := by decide +kernel
theorem dX11_change_66 : decode cX11_change 66 = .ok (.iastore, 1) := by decide +kernel
theorem dX11_change_67 : decode cX11_change 67 = .ok (.iload 5, 2) := by decide +kernel
theorem dX11_change_69 : decode cX11_change 69 = .ok (.ireturn, 1) := by decide +kernel
theorem dX11_agree_0 : decode cX11_agree 0 = .ok (.aload_n 0, 1) := by decide +kernel
theorem dX11_agree_1 : decode cX11_agree 1 = .ok (.getfield 10, 3) := by decide +kernel
theorem dX11_agree_4 : decode cX11_agree 4 = .ok (.iload_n 1, 1) := by decide +kernel
theorem dX11_agree_5 : decode cX11_agree 5 = .ok (.invokevirtual 64, 3) := by decide +kernel
theorem dX11_agree_8 : decode cX11_agree 8 = .ok (.ifCond .eq 28, 3) := by decide +kernel
theorem dX11_agree_11 : decode cX11_agree 11 = .ok (.aload_n 0, 1) := by decide +kernel
theorem dX11_agree_12 : decode cX11_agree 12 = .ok (.getfield 10, 3) := by decide +kernel
theorem dX11_agree_15 : decode cX11_agree 15 = .ok (.iload_n 2, 1) := by decide +kernel
theorem dX11_agree_16 : decode cX11_agree 16 = .ok (.invokevirtual 64, 3) := by decide +kernel
theorem dX11_agree_19 : decode cX11_agree 19 = .ok (.ifCond .eq 17, 3) := by decide +kernel
theorem dX11_agree_22 : decode cX11_agree 22 = .ok (.iload_n 1, 1) := by decide +kernel
theorem dX11_agree_23 : decode cX11_agree 23 = .ok (.iload_n 2, 1) := by decide +kernel
theorem dX11_agree_24 : decode cX11_agree 24 = .ok (.if_icmp .eq 12, 3) := by decide +kernel
theorem dX11_agree_27 : decode cX11_agree 27 = .ok (.iload_n 3, 1) := by decide +kernel
theorem dX11_agree_28 : decode cX11_agree 28 = .ok (.iconst 0, 1) := by decide +kernel
theorem dX11_agree_29 : decode cX11_agree 29 = .ok (.iconst 1, 1) := by decide +kernel
theorem dX11_agree_30 : decode cX11_agree 30 = .ok (.invokestatic 55, 3) := by decide +kernel
theorem dX11_agree_33 : decode cX11_agree 33 = .ok (.ifCond .ne 6, 3) := by decide +kernel
theorem dX11_agree_36 : decode cX11_agree 36 = .ok (.ldc 59, 2) := by decide +kernel
theorem dX11_agree_38 : decode cX11_agree 38 = .ok (.ireturn, 1) := by decide +kernel
theorem dX11_agree_39 : decode cX11_agree 39 = .ok (.aload_n 0, 1) := by decide +kernel
theorem dX11_agree_40 : decode cX11_agree 40 = .ok (.getfield 10, 3) := by decide +kernel
theorem dX11_agree_43 : decode cX11_agree 43 = .ok (.iload_n 1, 1) := by decide +kernel
theorem dX11_agree_44 : decode cX11_agree 44 = .ok (.iload_n 2, 1) := by decide +kernel
theorem dX11_agree_45 : decode cX11_agree 45 = .ok (.invokevirtual 88, 3) := by decide +kernel
theorem dX11_agree_48 : decode cX11_agree 48 = .ok (.ifCond .eq 7, 3) := by decide +kernel
theorem dX11_agree_51 : decode cX11_agree 51 = .ok (.iconst 1, 1) := by decide +kernel
theorem dX11_agree_52 : decode cX11_agree 52 = .ok (.goto 4, 3) := by decide +kernel
theorem dX11_agree_55 : decode cX11_agree 55 = .ok (.iconst 0, 1) := by decide +kernel
theorem dX11_agree_56 : decode cX11_agree 56 = .ok (.istore 4, 2) := by decide +kernel
theorem dX11_agree_58 : decode cX11_agree 58 = .ok (.iload 4, 2) := by decide +kernel
theorem dX11_agree_60 : decode cX11_agree 60 = .ok (.iload_n 3, 1) := by decide +kernel
theorem dX11_agree_61 : decode cX11_agree 61 = .ok (.if_icmp .eq 33, 3) := by decide +kernel
theorem dX11_agree_64 : decode cX11_agree 64 = .ok (.aload_n 0, 1) := by decide +kernel
theorem dX11_agree_65 : decode cX11_agree 65 = .ok (.getfield 10, 3) := by decide +kernel
theorem dX11_agree_68 : decode cX11_agree 68 = .ok (.getfield 85, 3) := by decide +kernel
theorem dX11_agree_71 : decode cX11_agree 71 = .ok (.iload_n 1, 1) := by decide +kernel
theorem dX11_agree_72 : decode cX11_agree 72 = .ok (.dup2, 1) := by decide +kernel
theorem dX11_agree_73 : decode cX11_agree 73 = .ok (.iaload, 1) := by decide +kernel
theorem dX11_agree_74 : decode cX11_agree 74 = .ok (.iconst 1, 1) := by decide +kernel
theorem dX11_agree_75 : decode cX11_agree 75 = .ok (.iload_n 2, 1) := by decide +kernel
theorem dX11_agree_76 : decode cX11_agree 76 = .ok (.ishl, 1) := by decide +kernel
theorem dX11_agree_77 : decode cX11_agree 77 = .ok (.ixor, 1) := by decide +kernel
theorem dX11_agree_78 : decode cX11_agree 78 = .ok (.iastore, 1) := by decide +kernel
theorem dX11_agree_79 : decode cX11_agree 79 = .ok (.aload_n 0, 1) := by decide +kernel
theorem dX11_agree_80 : decode cX11_agree 80 = .ok (.getfield 10, 3) := by decide +kernel
theorem dX11_agree_83 : decode cX11_agree 83 = .ok (.getfield 85, 3) := by decide +kernel
theorem dX11_agree_86 : decode cX11_agree 86 = .ok (.iload_n 2, 1) := by decide +kernel
theorem dX11_agree_87 : decode cX11_agree 87 = .ok (.dup2, 1) := by decide +kernel
theorem dX11_agree_88 : decode cX11_agree 88 = .ok (.iaload, 1) := by decide +kernel
theorem dX11_agree_89 : decode cX11_agree 89 = .ok (.iconst 1, 1) := by decide +kernel
theorem dX11_agree_90 : decode cX11_agree 90 = .ok (.iload_n 1, 1) := by decide +kernel
theorem dX11_agree_91 : decode cX11_agree 91 = .ok (.ishl, 1) := by decide +kernel
theorem dX11_agree_92 : decode cX11_agree 92 = .ok (.ixor, 1) := by decide +kernel
theorem dX11_agree_93 : decode cX11_agree 93 = .ok (.iastore, 1) := by decide +kernel
theorem dX11_agree_94 : decode cX11_agree 94 = .ok (.iload 4, 2) := by decide +kernel
theorem dX11_agree_96 : decode cX11_agree 96 = .ok (.ireturn, 1) := by decide +kernel
theorem dX11_patience_0 : decode cX11_patience 0 = .ok (.iload_n 1, 1) := by decide +kernel
theorem dX11_patience_1 : decode cX11_patience 1 = .ok (.iconst 0, 1) := by decide +kernel
theorem dX11_patience_2 : decode cX11_patience 2 = .ok (.bipush 24, 2) := by decide +kernel
theorem dX11_patience_4 : decode cX11_patience 4 = .ok (.invokestatic 55, 3) := by decide +kernel
theorem dX11_patience_7 : decode cX11_patience 7 = .ok (.ifCond .ne 6, 3) := by decide +kernel
theorem dX11_patience_10 : decode cX11_patience 10 = .ok (.ldc 59, 2) := by decide +kernel
theorem dX11_patience_12 : decode cX11_patience 12 = .ok (.ireturn, 1) := by decide +kernel
theorem dX11_patience_13 : decode cX11_patience 13 = .ok (.aload_n 0, 1) := by decide +kernel
theorem dX11_patience_14 : decode cX11_patience 14 = .ok (.getfield 10, 3) := by decide +kernel
theorem dX11_patience_17 : decode cX11_patience 17 = .ok (.getfield 92, 3) := by decide +kernel
theorem dX11_patience_20 : decode cX11_patience 20 = .ok (.istore_n 2, 1) := by decide +kernel
theorem dX11_patience_21 : decode cX11_patience 21 = .ok (.aload_n 0, 1) := by decide +kernel
theorem dX11_patience_22 : decode cX11_patience 22 = .ok (.getfield 10, 3) := by decide +kernel
theorem dX11_patience_25 : decode cX11_patience 25 = .ok (.iload_n 1, 1) := by decide +kernel
theorem dX11_patience_26 : decode cX11_patience 26 = .ok (.putfield 92, 3) := by decide +kernel
theorem dX11_patience_29 : decode cX11_patience 29 = .ok (.iload_n 2, 1) := by decide +kernel
theorem dX11_patience_30 : decode cX11_patience 30 = .ok (.ireturn, 1) := by decide +kernel
theorem dX11_deal_0 : decode cX11_deal 0 = .ok (.iload_n 1, 1) := by decide +kernel
theorem dX11_deal_1 : decode cX11_deal 1 = .ok (.iconst 1, 1) := by decide +kernel
theorem dX11_deal_2 : decode cX11_deal 2 = .ok (.bipush 10, 2) := by decide +kernel
theorem dX11_deal_4 : decode cX11_deal 4 = .ok (.invokestatic 55, 3) := by decide +kernel
theorem dX11_deal_7 : decode cX11_deal 7 = .ok (.ifCond .ne 6, 3) := by decide +kernel
theorem dX11_deal_10 : decode cX11_deal 10 = .ok (.ldc 59, 2) := by decide +kernel
theorem dX11_deal_12 : decode cX11_deal 12 = .ok (.ireturn, 1) := by decide +kernel
theorem dX11_deal_13 : decode cX11_deal 13 = .ok (.iconst 0, 1) := by decide +kernel
theorem dX11_deal_14 : decode cX11_deal 14 = .ok (.istore_n 2, 1) := by decide +kernel
theorem dX11_deal_15 : decode cX11_deal 15 = .ok (.iload_n 2, 1) := by decide +kernel
theorem dX11_deal_16 : decode cX11_deal 16 = .ok (.iload_n 1, 1) := by decide +kernel
theorem dX11_deal_17 : decode cX11_deal 17 = .ok (.if_icmp .ge 55, 3) := by decide +kernel
theorem dX11_deal_20 : decode cX11_deal 20 = .ok (.aload_n 0, 1) := by decide +kernel
theorem dX11_deal_21 : decode cX11_deal 21 = .ok (.getfield 10, 3) := by decide +kernel
theorem dX11_deal_24 : decode cX11_deal 24 = .ok (.getfield 95, 3) := by decide +kernel
theorem dX11_deal_27 : decode cX11_deal 27 = .ok (.bipush 10, 2) := by decide +kernel
theorem dX11_deal_29 : decode cX11_deal 29 = .ok (.if_icmp .ge 43, 3) := by decide +kernel
theorem dX11_deal_32 : decode cX11_deal 32 = .ok (.aload_n 0, 1) := by decide +kernel
theorem dX11_deal_33 : decode cX11_deal 33 = .ok (.getfield 10, 3) := by decide +kernel
theorem dX11_deal_36 : decode cX11_deal 36 = .ok (.invokevirtual 98, 3) := by decide +kernel
theorem dX11_deal_39 : decode cX11_deal 39 = .ok (.bipush 101, 2) := by decide +kernel
theorem dX11_deal_41 : decode cX11_deal 41 = .ok (.irem, 1) := by decide +kernel
theorem dX11_deal_42 : decode cX11_deal 42 = .ok (.istore_n 3, 1) := by decide +kernel
theorem dX11_deal_43 : decode cX11_deal 43 = .ok (.aload_n 0, 1) := by decide +kernel
theorem dX11_deal_44 : decode cX11_deal 44 = .ok (.getfield 10, 3) := by decide +kernel
theorem dX11_deal_47 : decode cX11_deal 47 = .ok (.invokevirtual 98, 3) := by decide +kernel
theorem dX11_deal_50 : decode cX11_deal 50 = .ok (.bipush 101, 2) := by decide +kernel
theorem dX11_deal_52 : decode cX11_deal 52 = .ok (.irem, 1) := by decide +kernel
theorem dX11_deal_53 : decode cX11_deal 53 = .ok (.istore 4, 2) := by decide +kernel
theorem dX11_deal_55 : decode cX11_deal 55 = .ok (.aload_n 0, 1) := by decide +kernel
theorem dX11_deal_56 : decode cX11_deal 56 = .ok (.getfield 10, 3) := by decide +kernel
theorem dX11_deal_59 : decode cX11_deal 59 = .ok (.iload_n 3, 1) := by decide +kernel
theorem dX11_deal_60 : decode cX11_deal 60 = .ok (.iload 4, 2) := by decide +kernel
theorem dX11_deal_62 : decode cX11_deal 62 = .ok (.invokevirtual 60, 3) := by decide +kernel
theorem dX11_deal_65 : decode cX11_deal 65 = .ok (.pop, 1) := by decide +kernel
theorem dX11_deal_66 : decode cX11_deal 66 = .ok (.iinc 2 1, 3) := by decide +kernel
theorem dX11_deal_69 : decode cX11_deal 69 = .ok (.goto (-54), 3) := by decide +kernel
theorem dX11_deal_72 : decode cX11_deal 72 = .ok (.iload_n 2, 1) := by decide +kernel
theorem dX11_deal_73 : decode cX11_deal 73 = .ok (.ireturn, 1) := by decide +kernel
theorem dX11_door_0 : decode cX11_door 0 = .ok (.aload_n 0, 1) := by decide +kernel
theorem dX11_door_1 : decode cX11_door 1 = .ok (.getfield 10, 3) := by decide +kernel
theorem dX11_door_4 : decode cX11_door 4 = .ok (.iload_n 1, 1) := by decide +kernel
theorem dX11_door_5 : decode cX11_door 5 = .ok (.invokevirtual 64, 3) := by decide +kernel
theorem dX11_door_8 : decode cX11_door 8 = .ok (.ifCond .eq 14, 3) := by decide +kernel
theorem dX11_door_11 : decode cX11_door 11 = .ok (.iload_n 2, 1) := by decide +kernel
theorem dX11_door_12 : decode cX11_door 12 = .ok (.iconst 0, 1) := by decide +kernel
theorem dX11_door_13 : decode cX11_door 13 = .ok (.sipush 999, 3) := by decide +kernel
theorem dX11_door_16 : decode cX11_door 16 = .ok (.invokestatic 55, 3) := by decide +kernel
theorem dX11_door_19 : decode cX11_door 19 = .ok (.ifCond .ne 6, 3) := by decide +kernel
theorem dX11_door_22 : decode cX11_door 22 = .ok (.ldc 59, 2) := by decide +kernel
theorem dX11_door_24 : decode cX11_door 24 = .ok (.ireturn, 1) := by decide +kernel
theorem dX11_door_25 : decode cX11_door 25 = .ok (.aload_n 0, 1) := by decide +kernel
theorem dX11_door_26 : decode cX11_door 26 = .ok (.getfield 10, 3) := by decide +kernel
theorem dX11_door_29 : decode cX11_door 29 = .ok (.iload_n 1, 1) := by decide +kernel
theorem dX11_door_30 : decode cX11_door 30 = .ok (.iload_n 2, 1) := by decide +kernel
theorem dX11_door_31 : decode cX11_door 31 = .ok (.invokevirtual 102, 3) := by decide +kernel
theorem dX11_door_34 : decode cX11_door 34 = .ok (.ireturn, 1) := by decide +kernel
theorem dX11_doorTold_0 : decode cX11_doorTold 0 = .ok (.aload_n 0, 1) := by decide +kernel
theorem dX11_doorTold_1 : decode cX11_doorTold 1 = .ok (.getfield 10, 3) := by decide +kernel
theorem dX11_doorTold_4 : decode cX11_doorTold 4 = .ok (.iload_n 1, 1) := by decide +kernel
theorem dX11_doorTold_5 : decode cX11_doorTold 5 = .ok (.invokevirtual 105, 3) := by decide +kernel
theorem dX11_doorTold_8 : decode cX11_doorTold 8 = .ok (.ifCond .ne 6, 3) := by decide +kernel
theorem dX11_doorTold_11 : decode cX11_doorTold 11 = .ok (.ldc 59, 2) := by decide +kernel
theorem dX11_doorTold_13 : decode cX11_doorTold 13 = .ok (.ireturn, 1) := by decide +kernel
theorem dX11_doorTold_14 : decode cX11_doorTold 14 = .ok (.iload_n 2, 1) := by decide +kernel
theorem dX11_doorTold_15 : decode cX11_doorTold 15 = .ok (.tableswitch 110 0 5 #[37, 47, 57, 67, 79, 93], 37) := by decide +kernel
theorem dX11_doorTold_52 : decode cX11_doorTold 52 = .ok (.aload_n 0, 1) := by decide +kernel
theorem dX11_doorTold_53 : decode cX11_doorTold 53 = .ok (.getfield 10, 3) := by decide +kernel
theorem dX11_doorTold_56 : decode cX11_doorTold 56 = .ok (.getfield 108, 3) := by decide +kernel
theorem dX11_doorTold_59 : decode cX11_doorTold 59 = .ok (.iload_n 1, 1) := by decide +kernel
theorem dX11_doorTold_60 : decode cX11_doorTold 60 = .ok (.iaload, 1) := by decide +kernel
theorem dX11_doorTold_61 : decode cX11_doorTold 61 = .ok (.ireturn, 1) := by decide +kernel
theorem dX11_doorTold_62 : decode cX11_doorTold 62 = .ok (.aload_n 0, 1) := by decide +kernel
theorem dX11_doorTold_63 : decode cX11_doorTold 63 = .ok (.getfield 10, 3) := by decide +kernel
theorem dX11_doorTold_66 : decode cX11_doorTold 66 = .ok (.getfield 111, 3) := by decide +kernel
theorem dX11_doorTold_69 : decode cX11_doorTold 69 = .ok (.iload_n 1, 1) := by decide +kernel
theorem dX11_doorTold_70 : decode cX11_doorTold 70 = .ok (.iaload, 1) := by decide +kernel
theorem dX11_doorTold_71 : decode cX11_doorTold 71 = .ok (.ireturn, 1) := by decide +kernel
theorem dX11_doorTold_72 : decode cX11_doorTold 72 = .ok (.aload_n 0, 1) := by decide +kernel
theorem dX11_doorTold_73 : decode cX11_doorTold 73 = .ok (.getfield 10, 3) := by decide +kernel
theorem dX11_doorTold_76 : decode cX11_doorTold 76 = .ok (.getfield 114, 3) := by decide +kernel
theorem dX11_doorTold_79 : decode cX11_doorTold 79 = .ok (.iload_n 1, 1) := by decide +kernel
theorem dX11_doorTold_80 : decode cX11_doorTold 80 = .ok (.iaload, 1) := by decide +kernel
theorem dX11_doorTold_81 : decode cX11_doorTold 81 = .ok (.ireturn, 1) := by decide +kernel
theorem dX11_doorTold_82 : decode cX11_doorTold 82 = .ok (.aload_n 0, 1) := by decide +kernel
theorem dX11_doorTold_83 : decode cX11_doorTold 83 = .ok (.getfield 10, 3) := by decide +kernel
theorem dX11_doorTold_86 : decode cX11_doorTold 86 = .ok (.getfield 117, 3) := by decide +kernel
theorem dX11_doorTold_89 : decode cX11_doorTold 89 = .ok (.iconst 2, 1) := by decide +kernel
theorem dX11_doorTold_90 : decode cX11_doorTold 90 = .ok (.iload_n 1, 1) := by decide +kernel
theorem dX11_doorTold_91 : decode cX11_doorTold 91 = .ok (.imul, 1) := by decide +kernel
theorem dX11_doorTold_92 : decode cX11_doorTold 92 = .ok (.iaload, 1) := by decide +kernel
theorem dX11_doorTold_93 : decode cX11_doorTold 93 = .ok (.ireturn, 1) := by decide +kernel
theorem dX11_doorTold_94 : decode cX11_doorTold 94 = .ok (.aload_n 0, 1) := by decide +kernel
theorem dX11_doorTold_95 : decode cX11_doorTold 95 = .ok (.getfield 10, 3) := by decide +kernel
theorem dX11_doorTold_98 : decode cX11_doorTold 98 = .ok (.getfield 117, 3) := by decide +kernel
theorem dX11_doorTold_101 : decode cX11_doorTold 101 = .ok (.iconst 2, 1) := by decide +kernel
theorem dX11_doorTold_102 : decode cX11_doorTold 102 = .ok (.iload_n 1, 1) := by decide +kernel
theorem dX11_doorTold_103 : decode cX11_doorTold 103 = .ok (.imul, 1) := by decide +kernel
theorem dX11_doorTold_104 : decode cX11_doorTold 104 = .ok (.iconst 1, 1) := by decide +kernel
theorem dX11_doorTold_105 : decode cX11_doorTold 105 = .ok (.iadd, 1) := by decide +kernel
theorem dX11_doorTold_106 : decode cX11_doorTold 106 = .ok (.iaload, 1) := by decide +kernel
theorem dX11_doorTold_107 : decode cX11_doorTold 107 = .ok (.ireturn, 1) := by decide +kernel
theorem dX11_doorTold_108 : decode cX11_doorTold 108 = .ok (.aload_n 0, 1) := by decide +kernel
theorem dX11_doorTold_109 : decode cX11_doorTold 109 = .ok (.getfield 10, 3) := by decide +kernel
theorem dX11_doorTold_112 : decode cX11_doorTold 112 = .ok (.iload_n 1, 1) := by decide +kernel
theorem dX11_doorTold_113 : decode cX11_doorTold 113 = .ok (.invokevirtual 120, 3) := by decide +kernel
theorem dX11_doorTold_116 : decode cX11_doorTold 116 = .ok (.ifCond .eq 7, 3) := by decide +kernel
theorem dX11_doorTold_119 : decode cX11_doorTold 119 = .ok (.iconst 1, 1) := by decide +kernel
theorem dX11_doorTold_120 : decode cX11_doorTold 120 = .ok (.goto 4, 3) := by decide +kernel
theorem dX11_doorTold_123 : decode cX11_doorTold 123 = .ok (.iconst 0, 1) := by decide +kernel
theorem dX11_doorTold_124 : decode cX11_doorTold 124 = .ok (.ireturn, 1) := by decide +kernel
theorem dX11_doorTold_125 : decode cX11_doorTold 125 = .ok (.ldc 59, 2) := by decide +kernel
theorem dX11_doorTold_127 : decode cX11_doorTold 127 = .ok (.ireturn, 1) := by decide +kernel
theorem dX11_set_0 : decode cX11_set 0 = .ok (.aload_n 0, 1) := by decide +kernel
theorem dX11_set_1 : decode cX11_set 1 = .ok (.getfield 10, 3) := by decide +kernel
theorem dX11_set_4 : decode cX11_set 4 = .ok (.iload_n 1, 1) := by decide +kernel
theorem dX11_set_5 : decode cX11_set 5 = .ok (.invokevirtual 105, 3) := by decide +kernel
theorem dX11_set_8 : decode cX11_set 8 = .ok (.ifCond .eq 33, 3) := by decide +kernel
theorem dX11_set_11 : decode cX11_set 11 = .ok (.iload_n 2, 1) := by decide +kernel
theorem dX11_set_12 : decode cX11_set 12 = .ok (.iconst 1, 1) := by decide +kernel
theorem dX11_set_13 : decode cX11_set 13 = .ok (.iconst 2, 1) := by decide +kernel
theorem dX11_set_14 : decode cX11_set 14 = .ok (.invokestatic 55, 3) := by decide +kernel
theorem dX11_set_17 : decode cX11_set 17 = .ok (.ifCond .eq 24, 3) := by decide +kernel
theorem dX11_set_20 : decode cX11_set 20 = .ok (.iload_n 3, 1) := by decide +kernel
theorem dX11_set_21 : decode cX11_set 21 = .ok (.iconst 0, 1) := by decide +kernel
theorem dX11_set_22 : decode cX11_set 22 = .ok (.iload_n 2, 1) := by decide +kernel
theorem dX11_set_23 : decode cX11_set 23 = .ok (.iconst 1, 1) := by decide +kernel
theorem dX11_set_24 : decode cX11_set 24 = .ok (.if_icmp .ne 9, 3) := by decide +kernel
theorem dX11_set_27 : decode cX11_set 27 = .ok (.sipush 999, 3) := by decide +kernel
theorem dX11_set_30 : decode cX11_set 30 = .ok (.goto 5, 3) := by decide +kernel
theorem dX11_set_33 : decode cX11_set 33 = .ok (.bipush 9, 2) := by decide +kernel
theorem dX11_set_35 : decode cX11_set 35 = .ok (.invokestatic 55, 3) := by decide +kernel
theorem dX11_set_38 : decode cX11_set 38 = .ok (.ifCond .ne 6, 3) := by decide +kernel
theorem dX11_set_41 : decode cX11_set 41 = .ok (.ldc 59, 2) := by decide +kernel
theorem dX11_set_43 : decode cX11_set 43 = .ok (.ireturn, 1) := by decide +kernel
theorem dX11_set_44 : decode cX11_set 44 = .ok (.iload_n 2, 1) := by decide +kernel
theorem dX11_set_45 : decode cX11_set 45 = .ok (.iconst 1, 1) := by decide +kernel
theorem dX11_set_46 : decode cX11_set 46 = .ok (.if_icmp .ne 13, 3) := by decide +kernel
theorem dX11_set_49 : decode cX11_set 49 = .ok (.aload_n 0, 1) := by decide +kernel
theorem dX11_set_50 : decode cX11_set 50 = .ok (.getfield 10, 3) := by decide +kernel
theorem dX11_set_53 : decode cX11_set 53 = .ok (.getfield 111, 3) := by decide +kernel
theorem dX11_set_56 : decode cX11_set 56 = .ok (.goto 10, 3) := by decide +kernel
theorem dX11_set_59 : decode cX11_set 59 = .ok (.aload_n 0, 1) := by decide +kernel
theorem dX11_set_60 : decode cX11_set 60 = .ok (.getfield 10, 3) := by decide +kernel
theorem dX11_set_63 : decode cX11_set 63 = .ok (.getfield 114, 3) := by decide +kernel
theorem dX11_set_66 : decode cX11_set 66 = .ok (.astore 4, 2) := by decide +kernel
theorem dX11_set_68 : decode cX11_set 68 = .ok (.aload 4, 2) := by decide +kernel
theorem dX11_set_70 : decode cX11_set 70 = .ok (.iload_n 1, 1) := by decide +kernel
theorem dX11_set_71 : decode cX11_set 71 = .ok (.iaload, 1) := by decide +kernel
theorem dX11_set_72 : decode cX11_set 72 = .ok (.istore 5, 2) := by decide +kernel
theorem dX11_set_74 : decode cX11_set 74 = .ok (.aload 4, 2) := by decide +kernel
theorem dX11_set_76 : decode cX11_set 76 = .ok (.iload_n 1, 1) := by decide +kernel
theorem dX11_set_77 : decode cX11_set 77 = .ok (.iload_n 3, 1) := by decide +kernel
theorem dX11_set_78 : decode cX11_set 78 = .ok (.iastore, 1) := by decide +kernel
theorem dX11_set_79 : decode cX11_set 79 = .ok (.iload 5, 2) := by decide +kernel
theorem dX11_set_81 : decode cX11_set 81 = .ok (.ireturn, 1) := by decide +kernel
theorem dX11_wire_0 : decode cX11_wire 0 = .ok (.aload_n 0, 1) := by decide +kernel
theorem dX11_wire_1 : decode cX11_wire 1 = .ok (.getfield 10, 3) := by decide +kernel
theorem dX11_wire_4 : decode cX11_wire 4 = .ok (.iload_n 1, 1) := by decide +kernel
theorem dX11_wire_5 : decode cX11_wire 5 = .ok (.invokevirtual 105, 3) := by decide +kernel
theorem dX11_wire_8 : decode cX11_wire 8 = .ok (.ifCond .eq 29, 3) := by decide +kernel
theorem dX11_wire_11 : decode cX11_wire 11 = .ok (.iload_n 2, 1) := by decide +kernel
theorem dX11_wire_12 : decode cX11_wire 12 = .ok (.iconst 0, 1) := by decide +kernel
theorem dX11_wire_13 : decode cX11_wire 13 = .ok (.iconst 1, 1) := by decide +kernel
theorem dX11_wire_14 : decode cX11_wire 14 = .ok (.invokestatic 55, 3) := by decide +kernel
theorem dX11_wire_17 : decode cX11_wire 17 = .ok (.ifCond .eq 20, 3) := by decide +kernel
theorem dX11_wire_20 : decode cX11_wire 20 = .ok (.iload_n 3, 1) := by decide +kernel
theorem dX11_wire_21 : decode cX11_wire 21 = .ok (.ldc 74, 2) := by decide +kernel
theorem dX11_wire_23 : decode cX11_wire 23 = .ok (.if_icmp .eq 17, 3) := by decide +kernel
theorem dX11_wire_26 : decode cX11_wire 26 = .ok (.aload_n 0, 1) := by decide +kernel
theorem dX11_wire_27 : decode cX11_wire 27 = .ok (.getfield 10, 3) := by decide +kernel
theorem dX11_wire_30 : decode cX11_wire 30 = .ok (.iload_n 3, 1) := by decide +kernel
theorem dX11_wire_31 : decode cX11_wire 31 = .ok (.invokevirtual 64, 3) := by decide +kernel
theorem dX11_wire_34 : decode cX11_wire 34 = .ok (.ifCond .ne 6, 3) := by decide +kernel
theorem dX11_wire_37 : decode cX11_wire 37 = .ok (.ldc 59, 2) := by decide +kernel
theorem dX11_wire_39 : decode cX11_wire 39 = .ok (.ireturn, 1) := by decide +kernel
theorem dX11_wire_40 : decode cX11_wire 40 = .ok (.aload_n 0, 1) := by decide +kernel
theorem dX11_wire_41 : decode cX11_wire 41 = .ok (.getfield 10, 3) := by decide +kernel
theorem dX11_wire_44 : decode cX11_wire 44 = .ok (.getfield 117, 3) := by decide +kernel
theorem dX11_wire_47 : decode cX11_wire 47 = .ok (.iconst 2, 1) := by decide +kernel
theorem dX11_wire_48 : decode cX11_wire 48 = .ok (.iload_n 1, 1) := by decide +kernel
theorem dX11_wire_49 : decode cX11_wire 49 = .ok (.imul, 1) := by decide +kernel
theorem dX11_wire_50 : decode cX11_wire 50 = .ok (.iload_n 2, 1) := by decide +kernel
theorem dX11_wire_51 : decode cX11_wire 51 = .ok (.iadd, 1) := by decide +kernel
theorem dX11_wire_52 : decode cX11_wire 52 = .ok (.iaload, 1) := by decide +kernel
theorem dX11_wire_53 : decode cX11_wire 53 = .ok (.istore 4, 2) := by decide +kernel
theorem dX11_wire_55 : decode cX11_wire 55 = .ok (.aload_n 0, 1) := by decide +kernel
theorem dX11_wire_56 : decode cX11_wire 56 = .ok (.getfield 10, 3) := by decide +kernel
theorem dX11_wire_59 : decode cX11_wire 59 = .ok (.getfield 117, 3) := by decide +kernel
theorem dX11_wire_62 : decode cX11_wire 62 = .ok (.iconst 2, 1) := by decide +kernel
theorem dX11_wire_63 : decode cX11_wire 63 = .ok (.iload_n 1, 1) := by decide +kernel
theorem dX11_wire_64 : decode cX11_wire 64 = .ok (.imul, 1) := by decide +kernel
theorem dX11_wire_65 : decode cX11_wire 65 = .ok (.iload_n 2, 1) := by decide +kernel
theorem dX11_wire_66 : decode cX11_wire 66 = .ok (.iadd, 1) := by decide +kernel
theorem dX11_wire_67 : decode cX11_wire 67 = .ok (.iload_n 3, 1) := by decide +kernel
theorem dX11_wire_68 : decode cX11_wire 68 = .ok (.iastore, 1) := by decide +kernel
theorem dX11_wire_69 : decode cX11_wire 69 = .ok (.iload 4, 2) := by decide +kernel
theorem dX11_wire_71 : decode cX11_wire 71 = .ok (.ireturn, 1) := by decide +kernel
theorem dX11_thief_0 : decode cX11_thief 0 = .ok (.iload_n 1, 1) := by decide +kernel
theorem dX11_thief_1 : decode cX11_thief 1 = .ok (.invokestatic 123, 3) := by decide +kernel
theorem dX11_thief_4 : decode cX11_thief 4 = .ok (.ifCond .eq 14, 3) := by decide +kernel
theorem dX11_thief_7 : decode cX11_thief 7 = .ok (.aload_n 0, 1) := by decide +kernel
theorem dX11_thief_8 : decode cX11_thief 8 = .ok (.getfield 10, 3) := by decide +kernel
theorem dX11_thief_11 : decode cX11_thief 11 = .ok (.iload_n 2, 1) := by decide +kernel
theorem dX11_thief_12 : decode cX11_thief 12 = .ok (.invokevirtual 64, 3) := by decide +kernel
theorem dX11_thief_15 : decode cX11_thief 15 = .ok (.ifCond .ne 6, 3) := by decide +kernel
theorem dX11_thief_18 : decode cX11_thief 18 = .ok (.ldc 59, 2) := by decide +kernel
theorem dX11_thief_20 : decode cX11_thief 20 = .ok (.ireturn, 1) := by decide +kernel
theorem dX11_thief_21 : decode cX11_thief 21 = .ok (.aload_n 0, 1) := by decide +kernel
theorem dX11_thief_22 : decode cX11_thief 22 = .ok (.getfield 10, 3) := by decide +kernel
theorem dX11_thief_25 : decode cX11_thief 25 = .ok (.getfield 126, 3) := by decide +kernel
theorem dX11_thief_28 : decode cX11_thief 28 = .ok (.bipush 6, 2) := by decide +kernel
theorem dX11_thief_30 : decode cX11_thief 30 = .ok (.if_icmp .lt 6, 3) := by decide +kernel
theorem dX11_thief_33 : decode cX11_thief 33 = .ok (.ldc 129, 2) := by decide +kernel
theorem dX11_thief_35 : decode cX11_thief 35 = .ok (.ireturn, 1) := by decide +kernel
theorem dX11_thief_36 : decode cX11_thief 36 = .ok (.aload_n 0, 1) := by decide +kernel
theorem dX11_thief_37 : decode cX11_thief 37 = .ok (.getfield 10, 3) := by decide +kernel
theorem dX11_thief_40 : decode cX11_thief 40 = .ok (.getfield 130, 3) := by decide +kernel
theorem dX11_thief_43 : decode cX11_thief 43 = .ok (.aload_n 0, 1) := by decide +kernel
theorem dX11_thief_44 : decode cX11_thief 44 = .ok (.getfield 10, 3) := by decide +kernel
theorem dX11_thief_47 : decode cX11_thief 47 = .ok (.getfield 126, 3) := by decide +kernel
theorem dX11_thief_50 : decode cX11_thief 50 = .ok (.iload_n 1, 1) := by decide +kernel
theorem dX11_thief_51 : decode cX11_thief 51 = .ok (.iload_n 2, 1) := by decide +kernel
theorem dX11_thief_52 : decode cX11_thief 52 = .ok (.invokestatic 134, 3) := by decide +kernel
theorem dX11_thief_55 : decode cX11_thief 55 = .ok (.aastore, 1) := by decide +kernel
theorem dX11_thief_56 : decode cX11_thief 56 = .ok (.aload_n 0, 1) := by decide +kernel
theorem dX11_thief_57 : decode cX11_thief 57 = .ok (.getfield 10, 3) := by decide +kernel
theorem dX11_thief_60 : decode cX11_thief 60 = .ok (.dup, 1) := by decide +kernel
theorem dX11_thief_61 : decode cX11_thief 61 = .ok (.getfield 126, 3) := by decide +kernel
theorem dX11_thief_64 : decode cX11_thief 64 = .ok (.iconst 1, 1) := by decide +kernel
theorem dX11_thief_65 : decode cX11_thief 65 = .ok (.iadd, 1) := by decide +kernel
theorem dX11_thief_66 : decode cX11_thief 66 = .ok (.putfield 126, 3) := by decide +kernel
theorem dX11_thief_69 : decode cX11_thief 69 = .ok (.aload_n 0, 1) := by decide +kernel
theorem dX11_thief_70 : decode cX11_thief 70 = .ok (.getfield 10, 3) := by decide +kernel
theorem dX11_thief_73 : decode cX11_thief 73 = .ok (.getfield 126, 3) := by decide +kernel
theorem dX11_thief_76 : decode cX11_thief 76 = .ok (.iconst 1, 1) := by decide +kernel
theorem dX11_thief_77 : decode cX11_thief 77 = .ok (.isub, 1) := by decide +kernel
theorem dX11_thief_78 : decode cX11_thief 78 = .ok (.ireturn, 1) := by decide +kernel
theorem dX11_told_0 : decode cX11_told 0 = .ok (.aload_n 0, 1) := by decide +kernel
theorem dX11_told_1 : decode cX11_told 1 = .ok (.getfield 10, 3) := by decide +kernel
theorem dX11_told_4 : decode cX11_told 4 = .ok (.iload_n 1, 1) := by decide +kernel
theorem dX11_told_5 : decode cX11_told 5 = .ok (.invokevirtual 140, 3) := by decide +kernel
theorem dX11_told_8 : decode cX11_told 8 = .ok (.astore_n 3, 1) := by decide +kernel
theorem dX11_told_9 : decode cX11_told 9 = .ok (.aload_n 3, 1) := by decide +kernel
theorem dX11_told_10 : decode cX11_told 10 = .ok (.ifnonnull 6, 3) := by decide +kernel
theorem dX11_told_13 : decode cX11_told 13 = .ok (.ldc 59, 2) := by decide +kernel
theorem dX11_told_15 : decode cX11_told 15 = .ok (.ireturn, 1) := by decide +kernel
theorem dX11_told_16 : decode cX11_told 16 = .ok (.iload_n 2, 1) := by decide +kernel
theorem dX11_told_17 : decode cX11_told 17 = .ok (.tableswitch 42 0 2 #[27, 32, 37], 27) := by decide +kernel
theorem dX11_told_44 : decode cX11_told 44 = .ok (.aload_n 3, 1) := by decide +kernel
theorem dX11_told_45 : decode cX11_told 45 = .ok (.getfield 144, 3) := by decide +kernel
theorem dX11_told_48 : decode cX11_told 48 = .ok (.ireturn, 1) := by decide +kernel
theorem dX11_told_49 : decode cX11_told 49 = .ok (.aload_n 3, 1) := by decide +kernel
theorem dX11_told_50 : decode cX11_told 50 = .ok (.getfield 147, 3) := by decide +kernel
theorem dX11_told_53 : decode cX11_told 53 = .ok (.ireturn, 1) := by decide +kernel
theorem dX11_told_54 : decode cX11_told 54 = .ok (.aload_n 3, 1) := by decide +kernel
theorem dX11_told_55 : decode cX11_told 55 = .ok (.invokevirtual 150, 3) := by decide +kernel
theorem dX11_told_58 : decode cX11_told 58 = .ok (.ireturn, 1) := by decide +kernel
theorem dX11_told_59 : decode cX11_told 59 = .ok (.ldc 59, 2) := by decide +kernel
theorem dX11_told_61 : decode cX11_told 61 = .ok (.ireturn, 1) := by decide +kernel
theorem dX11_as_0 : decode cX11_as 0 = .ok (.aload_n 0, 1) := by decide +kernel
theorem dX11_as_1 : decode cX11_as 1 = .ok (.getfield 10, 3) := by decide +kernel
theorem dX11_as_4 : decode cX11_as 4 = .ok (.iload_n 1, 1) := by decide +kernel
theorem dX11_as_5 : decode cX11_as 5 = .ok (.invokevirtual 140, 3) := by decide +kernel
theorem dX11_as_8 : decode cX11_as 8 = .ok (.astore_n 3, 1) := by decide +kernel
theorem dX11_as_9 : decode cX11_as 9 = .ok (.aload_n 3, 1) := by decide +kernel
theorem dX11_as_10 : decode cX11_as 10 = .ok (.ifnull 10, 3) := by decide +kernel
theorem dX11_as_13 : decode cX11_as 13 = .ok (.iload_n 2, 1) := by decide +kernel
theorem dX11_as_14 : decode cX11_as 14 = .ok (.invokestatic 123, 3) := by decide +kernel
theorem dX11_as_17 : decode cX11_as 17 = .ok (.ifCond .ne 6, 3) := by decide +kernel
theorem dX11_as_20 : decode cX11_as 20 = .ok (.ldc 59, 2) := by decide +kernel
theorem dX11_as_22 : decode cX11_as 22 = .ok (.ireturn, 1) := by decide +kernel
theorem dX11_as_23 : decode cX11_as 23 = .ok (.aload_n 3, 1) := by decide +kernel
theorem dX11_as_24 : decode cX11_as 24 = .ok (.iload_n 2, 1) := by decide +kernel
theorem dX11_as_25 : decode cX11_as 25 = .ok (.invokevirtual 153, 3) := by decide +kernel
theorem dX11_as_28 : decode cX11_as 28 = .ok (.ifCond .eq 10, 3) := by decide +kernel
theorem dX11_as_31 : decode cX11_as 31 = .ok (.aload_n 3, 1) := by decide +kernel
theorem dX11_as_32 : decode cX11_as 32 = .ok (.getfield 147, 3) := by decide +kernel
theorem dX11_as_35 : decode cX11_as 35 = .ok (.goto 5, 3) := by decide +kernel
theorem dX11_as_38 : decode cX11_as 38 = .ok (.ldc 156, 2) := by decide +kernel
theorem dX11_as_40 : decode cX11_as 40 = .ok (.ireturn, 1) := by decide +kernel
theorem dX11_turns_0 : decode cX11_turns 0 = .ok (.aload_n 0, 1) := by decide +kernel
theorem dX11_turns_1 : decode cX11_turns 1 = .ok (.getfield 10, 3) := by decide +kernel
theorem dX11_turns_4 : decode cX11_turns 4 = .ok (.iload_n 1, 1) := by decide +kernel
theorem dX11_turns_5 : decode cX11_turns 5 = .ok (.invokevirtual 140, 3) := by decide +kernel
theorem dX11_turns_8 : decode cX11_turns 8 = .ok (.astore_n 3, 1) := by decide +kernel
theorem dX11_turns_9 : decode cX11_turns 9 = .ok (.aload_n 3, 1) := by decide +kernel
theorem dX11_turns_10 : decode cX11_turns 10 = .ok (.ifnull 10, 3) := by decide +kernel
theorem dX11_turns_13 : decode cX11_turns 13 = .ok (.iload_n 2, 1) := by decide +kernel
theorem dX11_turns_14 : decode cX11_turns 14 = .ok (.invokestatic 123, 3) := by decide +kernel
theorem dX11_turns_17 : decode cX11_turns 17 = .ok (.ifCond .ne 6, 3) := by decide +kernel
theorem dX11_turns_20 : decode cX11_turns 20 = .ok (.ldc 59, 2) := by decide +kernel
theorem dX11_turns_22 : decode cX11_turns 22 = .ok (.ireturn, 1) := by decide +kernel
theorem dX11_turns_23 : decode cX11_turns 23 = .ok (.aload_n 0, 1) := by decide +kernel
theorem dX11_turns_24 : decode cX11_turns 24 = .ok (.getfield 10, 3) := by decide +kernel
theorem dX11_turns_27 : decode cX11_turns 27 = .ok (.getfield 130, 3) := by decide +kernel
theorem dX11_turns_30 : decode cX11_turns 30 = .ok (.iload_n 1, 1) := by decide +kernel
theorem dX11_turns_31 : decode cX11_turns 31 = .ok (.iload_n 2, 1) := by decide +kernel
theorem dX11_turns_32 : decode cX11_turns 32 = .ok (.aload_n 3, 1) := by decide +kernel
theorem dX11_turns_33 : decode cX11_turns 33 = .ok (.getfield 147, 3) := by decide +kernel
theorem dX11_turns_36 : decode cX11_turns 36 = .ok (.invokestatic 134, 3) := by decide +kernel
theorem dX11_turns_39 : decode cX11_turns 39 = .ok (.aastore, 1) := by decide +kernel
theorem dX11_turns_40 : decode cX11_turns 40 = .ok (.aload_n 3, 1) := by decide +kernel
theorem dX11_turns_41 : decode cX11_turns 41 = .ok (.getfield 144, 3) := by decide +kernel
theorem dX11_turns_44 : decode cX11_turns 44 = .ok (.ireturn, 1) := by decide +kernel
theorem dX11_at_0 : decode cX11_at 0 = .ok (.aload_n 0, 1) := by decide +kernel
theorem dX11_at_1 : decode cX11_at 1 = .ok (.getfield 10, 3) := by decide +kernel
theorem dX11_at_4 : decode cX11_at 4 = .ok (.iload_n 1, 1) := by decide +kernel
theorem dX11_at_5 : decode cX11_at 5 = .ok (.invokevirtual 140, 3) := by decide +kernel
theorem dX11_at_8 : decode cX11_at 8 = .ok (.astore 4, 2) := by decide +kernel
theorem dX11_at_10 : decode cX11_at 10 = .ok (.aload 4, 2) := by decide +kernel
theorem dX11_at_12 : decode cX11_at 12 = .ok (.ifnull 23, 3) := by decide +kernel
theorem dX11_at_15 : decode cX11_at 15 = .ok (.aload_n 0, 1) := by decide +kernel
theorem dX11_at_16 : decode cX11_at 16 = .ok (.getfield 10, 3) := by decide +kernel
theorem dX11_at_19 : decode cX11_at 19 = .ok (.iload_n 2, 1) := by decide +kernel
theorem dX11_at_20 : decode cX11_at 20 = .ok (.invokevirtual 105, 3) := by decide +kernel
theorem dX11_at_23 : decode cX11_at 23 = .ok (.ifCond .eq 12, 3) := by decide +kernel
theorem dX11_at_26 : decode cX11_at 26 = .ok (.iload_n 3, 1) := by decide +kernel
theorem dX11_at_27 : decode cX11_at 27 = .ok (.iconst 0, 1) := by decide +kernel
theorem dX11_at_28 : decode cX11_at 28 = .ok (.iconst 2, 1) := by decide +kernel
theorem dX11_at_29 : decode cX11_at 29 = .ok (.invokestatic 55, 3) := by decide +kernel
theorem dX11_at_32 : decode cX11_at 32 = .ok (.ifCond .ne 6, 3) := by decide +kernel
theorem dX11_at_35 : decode cX11_at 35 = .ok (.ldc 59, 2) := by decide +kernel
theorem dX11_at_37 : decode cX11_at 37 = .ok (.ireturn, 1) := by decide +kernel
theorem dX11_at_38 : decode cX11_at 38 = .ok (.iload_n 3, 1) := by decide +kernel
theorem dX11_at_39 : decode cX11_at 39 = .ok (.iconst 2, 1) := by decide +kernel
theorem dX11_at_40 : decode cX11_at 40 = .ok (.if_icmp .ne 26, 3) := by decide +kernel
theorem dX11_at_43 : decode cX11_at 43 = .ok (.aload_n 0, 1) := by decide +kernel
theorem dX11_at_44 : decode cX11_at 44 = .ok (.getfield 10, 3) := by decide +kernel
theorem dX11_at_47 : decode cX11_at 47 = .ok (.getfield 108, 3) := by decide +kernel
theorem dX11_at_50 : decode cX11_at 50 = .ok (.iload_n 2, 1) := by decide +kernel
theorem dX11_at_51 : decode cX11_at 51 = .ok (.iaload, 1) := by decide +kernel
theorem dX11_at_52 : decode cX11_at 52 = .ok (.aload 4, 2) := by decide +kernel
theorem dX11_at_54 : decode cX11_at 54 = .ok (.getfield 147, 3) := by decide +kernel
theorem dX11_at_57 : decode cX11_at 57 = .ok (.if_icmp .ne 7, 3) := by decide +kernel
theorem dX11_at_60 : decode cX11_at 60 = .ok (.iconst 1, 1) := by decide +kernel
theorem dX11_at_61 : decode cX11_at 61 = .ok (.goto 4, 3) := by decide +kernel
theorem dX11_at_64 : decode cX11_at 64 = .ok (.iconst 0, 1) := by decide +kernel
theorem dX11_at_65 : decode cX11_at 65 = .ok (.ireturn, 1) := by decide +kernel
theorem dX11_at_66 : decode cX11_at 66 = .ok (.aload_n 0, 1) := by decide +kernel
theorem dX11_at_67 : decode cX11_at 67 = .ok (.getfield 10, 3) := by decide +kernel
theorem dX11_at_70 : decode cX11_at 70 = .ok (.invokevirtual 157, 3) := by decide +kernel
theorem dX11_at_73 : decode cX11_at 73 = .ok (.aload_n 0, 1) := by decide +kernel
theorem dX11_at_74 : decode cX11_at 74 = .ok (.getfield 10, 3) := by decide +kernel
theorem dX11_at_77 : decode cX11_at 77 = .ok (.aload 4, 2) := by decide +kernel
theorem dX11_at_79 : decode cX11_at 79 = .ok (.iload_n 2, 1) := by decide +kernel
theorem dX11_at_80 : decode cX11_at 80 = .ok (.invokevirtual 160, 3) := by decide +kernel
theorem dX11_at_83 : decode cX11_at 83 = .ok (.istore 5, 2) := by decide +kernel
theorem dX11_at_85 : decode cX11_at 85 = .ok (.iload_n 3, 1) := by decide +kernel
theorem dX11_at_86 : decode cX11_at 86 = .ok (.ifCond .ne 8, 3) := by decide +kernel
theorem dX11_at_89 : decode cX11_at 89 = .ok (.iload 5, 2) := by decide +kernel
theorem dX11_at_91 : decode cX11_at 91 = .ok (.goto 13, 3) := by decide +kernel
theorem dX11_at_94 : decode cX11_at 94 = .ok (.aload_n 0, 1) := by decide +kernel
theorem dX11_at_95 : decode cX11_at 95 = .ok (.getfield 10, 3) := by decide +kernel
theorem dX11_at_98 : decode cX11_at 98 = .ok (.iload_n 2, 1) := by decide +kernel
theorem dX11_at_99 : decode cX11_at 99 = .ok (.iload 5, 2) := by decide +kernel
theorem dX11_at_101 : decode cX11_at 101 = .ok (.invokevirtual 164, 3) := by decide +kernel
theorem dX11_at_104 : decode cX11_at 104 = .ok (.ireturn, 1) := by decide +kernel
theorem dX11_heed_0 : decode cX11_heed 0 = .ok (.aload_n 0, 1) := by decide +kernel
theorem dX11_heed_1 : decode cX11_heed 1 = .ok (.getfield 10, 3) := by decide +kernel
theorem dX11_heed_4 : decode cX11_heed 4 = .ok (.iload_n 1, 1) := by decide +kernel
theorem dX11_heed_5 : decode cX11_heed 5 = .ok (.invokevirtual 140, 3) := by decide +kernel
theorem dX11_heed_8 : decode cX11_heed 8 = .ok (.astore_n 3, 1) := by decide +kernel
theorem dX11_heed_9 : decode cX11_heed 9 = .ok (.aload_n 3, 1) := by decide +kernel
theorem dX11_heed_10 : decode cX11_heed 10 = .ok (.ifnull 14, 3) := by decide +kernel
theorem dX11_heed_13 : decode cX11_heed 13 = .ok (.aload_n 0, 1) := by decide +kernel
theorem dX11_heed_14 : decode cX11_heed 14 = .ok (.getfield 10, 3) := by decide +kernel
theorem dX11_heed_17 : decode cX11_heed 17 = .ok (.iload_n 2, 1) := by decide +kernel
theorem dX11_heed_18 : decode cX11_heed 18 = .ok (.invokevirtual 64, 3) := by decide +kernel
theorem dX11_heed_21 : decode cX11_heed 21 = .ok (.ifCond .ne 6, 3) := by decide +kernel
theorem dX11_heed_24 : decode cX11_heed 24 = .ok (.ldc 59, 2) := by decide +kernel
theorem dX11_heed_26 : decode cX11_heed 26 = .ok (.ireturn, 1) := by decide +kernel
theorem dX11_heed_27 : decode cX11_heed 27 = .ok (.aload_n 3, 1) := by decide +kernel
theorem dX11_heed_28 : decode cX11_heed 28 = .ok (.aload_n 0, 1) := by decide +kernel
theorem dX11_heed_29 : decode cX11_heed 29 = .ok (.getfield 10, 3) := by decide +kernel
theorem dX11_heed_32 : decode cX11_heed 32 = .ok (.iload_n 2, 1) := by decide +kernel
theorem dX11_heed_33 : decode cX11_heed 33 = .ok (.aload_n 0, 1) := by decide +kernel
theorem dX11_heed_34 : decode cX11_heed 34 = .ok (.getfield 10, 3) := by decide +kernel
theorem dX11_heed_37 : decode cX11_heed 37 = .ok (.iload_n 2, 1) := by decide +kernel
theorem dX11_heed_38 : decode cX11_heed 38 = .ok (.invokevirtual 82, 3) := by decide +kernel
theorem dX11_heed_41 : decode cX11_heed 41 = .ok (.invokevirtual 167, 3) := by decide +kernel
theorem dX11_heed_44 : decode cX11_heed 44 = .ok (.ireturn, 1) := by decide +kernel
theorem dX11_choice_0 : decode cX11_choice 0 = .ok (.aload_n 0, 1) := by decide +kernel
theorem dX11_choice_1 : decode cX11_choice 1 = .ok (.getfield 10, 3) := by decide +kernel
theorem dX11_choice_4 : decode cX11_choice 4 = .ok (.iload_n 1, 1) := by decide +kernel
theorem dX11_choice_5 : decode cX11_choice 5 = .ok (.invokevirtual 140, 3) := by decide +kernel
theorem dX11_choice_8 : decode cX11_choice 8 = .ok (.astore_n 2, 1) := by decide +kernel
theorem dX11_choice_9 : decode cX11_choice 9 = .ok (.aload_n 2, 1) := by decide +kernel
theorem dX11_choice_10 : decode cX11_choice 10 = .ok (.ifnonnull 6, 3) := by decide +kernel
theorem dX11_choice_13 : decode cX11_choice 13 = .ok (.ldc 59, 2) := by decide +kernel
theorem dX11_choice_15 : decode cX11_choice 15 = .ok (.ireturn, 1) := by decide +kernel
theorem dX11_choice_16 : decode cX11_choice 16 = .ok (.aload_n 0, 1) := by decide +kernel
theorem dX11_choice_17 : decode cX11_choice 17 = .ok (.getfield 10, 3) := by decide +kernel
theorem dX11_choice_20 : decode cX11_choice 20 = .ok (.invokevirtual 171, 3) := by decide +kernel
theorem dX11_choice_23 : decode cX11_choice 23 = .ok (.aload_n 2, 1) := by decide +kernel
theorem dX11_choice_24 : decode cX11_choice 24 = .ok (.aload_n 0, 1) := by decide +kernel
theorem dX11_choice_25 : decode cX11_choice 25 = .ok (.getfield 10, 3) := by decide +kernel
theorem dX11_choice_28 : decode cX11_choice 28 = .ok (.iload_n 1, 1) := by decide +kernel
theorem dX11_choice_29 : decode cX11_choice 29 = .ok (.invokevirtual 174, 3) := by decide +kernel
theorem dX11_choice_32 : decode cX11_choice 32 = .ok (.ireturn, 1) := by decide +kernel
theorem dX11_nights_0 : decode cX11_nights 0 = .ok (.iload_n 1, 1) := by decide +kernel
theorem dX11_nights_1 : decode cX11_nights 1 = .ok (.iconst 1, 1) := by decide +kernel
theorem dX11_nights_2 : decode cX11_nights 2 = .ok (.bipush 60, 2) := by decide +kernel
theorem dX11_nights_4 : decode cX11_nights 4 = .ok (.invokestatic 55, 3) := by decide +kernel
theorem dX11_nights_7 : decode cX11_nights 7 = .ok (.ifCond .ne 6, 3) := by decide +kernel
theorem dX11_nights_10 : decode cX11_nights 10 = .ok (.ldc 59, 2) := by decide +kernel
theorem dX11_nights_12 : decode cX11_nights 12 = .ok (.ireturn, 1) := by decide +kernel
theorem dX11_nights_13 : decode cX11_nights 13 = .ok (.aload_n 0, 1) := by decide +kernel
theorem dX11_nights_14 : decode cX11_nights 14 = .ok (.getfield 10, 3) := by decide +kernel
theorem dX11_nights_17 : decode cX11_nights 17 = .ok (.invokevirtual 171, 3) := by decide +kernel
theorem dX11_nights_20 : decode cX11_nights 20 = .ok (.iconst 0, 1) := by decide +kernel
theorem dX11_nights_21 : decode cX11_nights 21 = .ok (.istore_n 2, 1) := by decide +kernel
theorem dX11_nights_22 : decode cX11_nights 22 = .ok (.iload_n 2, 1) := by decide +kernel
theorem dX11_nights_23 : decode cX11_nights 23 = .ok (.iload_n 1, 1) := by decide +kernel
theorem dX11_nights_24 : decode cX11_nights 24 = .ok (.if_icmp .ge 16, 3) := by decide +kernel
theorem dX11_nights_27 : decode cX11_nights 27 = .ok (.aload_n 0, 1) := by decide +kernel
theorem dX11_nights_28 : decode cX11_nights 28 = .ok (.getfield 10, 3) := by decide +kernel
theorem dX11_nights_31 : decode cX11_nights 31 = .ok (.invokevirtual 178, 3) := by decide +kernel
theorem dX11_nights_34 : decode cX11_nights 34 = .ok (.iinc 2 1, 3) := by decide +kernel
theorem dX11_nights_37 : decode cX11_nights 37 = .ok (.goto (-15), 3) := by decide +kernel
theorem dX11_nights_40 : decode cX11_nights 40 = .ok (.aload_n 0, 1) := by decide +kernel
theorem dX11_nights_41 : decode cX11_nights 41 = .ok (.getfield 10, 3) := by decide +kernel
theorem dX11_nights_44 : decode cX11_nights 44 = .ok (.getfield 181, 3) := by decide +kernel
theorem dX11_nights_47 : decode cX11_nights 47 = .ok (.ireturn, 1) := by decide +kernel
theorem dX11_seed_0 : decode cX11_seed 0 = .ok (.aload_n 0, 1) := by decide +kernel
theorem dX11_seed_1 : decode cX11_seed 1 = .ok (.getfield 10, 3) := by decide +kernel
theorem dX11_seed_4 : decode cX11_seed 4 = .ok (.getfield 184, 3) := by decide +kernel
theorem dX11_seed_7 : decode cX11_seed 7 = .ok (.istore_n 2, 1) := by decide +kernel
theorem dX11_seed_8 : decode cX11_seed 8 = .ok (.aload_n 0, 1) := by decide +kernel
theorem dX11_seed_9 : decode cX11_seed 9 = .ok (.getfield 10, 3) := by decide +kernel
theorem dX11_seed_12 : decode cX11_seed 12 = .ok (.iload_n 1, 1) := by decide +kernel
theorem dX11_seed_13 : decode cX11_seed 13 = .ok (.putfield 184, 3) := by decide +kernel
theorem dX11_seed_16 : decode cX11_seed 16 = .ok (.iload_n 2, 1) := by decide +kernel
theorem dX11_seed_17 : decode cX11_seed 17 = .ok (.ireturn, 1) := by decide +kernel
theorem dX11_pair_0 : decode cX11_pair 0 = .ok (.aload_n 0, 1) := by decide +kernel
theorem dX11_pair_1 : decode cX11_pair 1 = .ok (.getfield 10, 3) := by decide +kernel
theorem dX11_pair_4 : decode cX11_pair 4 = .ok (.iload_n 1, 1) := by decide +kernel
theorem dX11_pair_5 : decode cX11_pair 5 = .ok (.invokevirtual 105, 3) := by decide +kernel
theorem dX11_pair_8 : decode cX11_pair 8 = .ok (.ifCond .eq 14, 3) := by decide +kernel
theorem dX11_pair_11 : decode cX11_pair 11 = .ok (.aload_n 0, 1) := by decide +kernel
theorem dX11_pair_12 : decode cX11_pair 12 = .ok (.getfield 10, 3) := by decide +kernel
theorem dX11_pair_15 : decode cX11_pair 15 = .ok (.iload_n 1, 1) := by decide +kernel
theorem dX11_pair_16 : decode cX11_pair 16 = .ok (.invokevirtual 187, 3) := by decide +kernel
theorem dX11_pair_19 : decode cX11_pair 19 = .ok (.goto 5, 3) := by decide +kernel
theorem dX11_pair_22 : decode cX11_pair 22 = .ok (.ldc 59, 2) := by decide +kernel
theorem dX11_pair_24 : decode cX11_pair 24 = .ok (.ireturn, 1) := by decide +kernel
theorem dX11_wiring_0 : decode cX11_wiring 0 = .ok (.iconst 0, 1) := by decide +kernel
theorem dX11_wiring_1 : decode cX11_wiring 1 = .ok (.istore_n 1, 1) := by decide +kernel
theorem dX11_wiring_2 : decode cX11_wiring 2 = .ok (.iload_n 1, 1) := by decide +kernel
theorem dX11_wiring_3 : decode cX11_wiring 3 = .ok (.aload_n 0, 1) := by decide +kernel
theorem dX11_wiring_4 : decode cX11_wiring 4 = .ok (.getfield 10, 3) := by decide +kernel
theorem dX11_wiring_7 : decode cX11_wiring 7 = .ok (.getfield 190, 3) := by decide +kernel
theorem dX11_wiring_10 : decode cX11_wiring 10 = .ok (.if_icmp .ge 72, 3) := by decide +kernel
theorem dX11_wiring_13 : decode cX11_wiring 13 = .ok (.aload_n 0, 1) := by decide +kernel
theorem dX11_wiring_14 : decode cX11_wiring 14 = .ok (.getfield 10, 3) := by decide +kernel
theorem dX11_wiring_17 : decode cX11_wiring 17 = .ok (.iload_n 1, 1) := by decide +kernel
theorem dX11_wiring_18 : decode cX11_wiring 18 = .ok (.invokevirtual 187, 3) := by decide +kernel
theorem dX11_wiring_21 : decode cX11_wiring 21 = .ok (.istore_n 2, 1) := by decide +kernel
theorem dX11_wiring_22 : decode cX11_wiring 22 = .ok (.aload_n 0, 1) := by decide +kernel
theorem dX11_wiring_23 : decode cX11_wiring 23 = .ok (.getfield 10, 3) := by decide +kernel
theorem dX11_wiring_26 : decode cX11_wiring 26 = .ok (.getfield 117, 3) := by decide +kernel
theorem dX11_wiring_29 : decode cX11_wiring 29 = .ok (.iconst 2, 1) := by decide +kernel
theorem dX11_wiring_30 : decode cX11_wiring 30 = .ok (.iload_n 1, 1) := by decide +kernel
theorem dX11_wiring_31 : decode cX11_wiring 31 = .ok (.imul, 1) := by decide +kernel
theorem dX11_wiring_32 : decode cX11_wiring 32 = .ok (.iload_n 2, 1) := by decide +kernel
theorem dX11_wiring_33 : decode cX11_wiring 33 = .ok (.ldc 74, 2) := by decide +kernel
theorem dX11_wiring_35 : decode cX11_wiring 35 = .ok (.if_icmp .ne 8, 3) := by decide +kernel
theorem dX11_wiring_38 : decode cX11_wiring 38 = .ok (.ldc 74, 2) := by decide +kernel
theorem dX11_wiring_40 : decode cX11_wiring 40 = .ok (.goto 7, 3) := by decide +kernel
theorem dX11_wiring_43 : decode cX11_wiring 43 = .ok (.iload_n 2, 1) := by decide +kernel
theorem dX11_wiring_44 : decode cX11_wiring 44 = .ok (.bipush 100, 2) := by decide +kernel
theorem dX11_wiring_46 : decode cX11_wiring 46 = .ok (.idiv, 1) := by decide +kernel
theorem dX11_wiring_47 : decode cX11_wiring 47 = .ok (.iastore, 1) := by decide +kernel
theorem dX11_wiring_48 : decode cX11_wiring 48 = .ok (.aload_n 0, 1) := by decide +kernel
theorem dX11_wiring_49 : decode cX11_wiring 49 = .ok (.getfield 10, 3) := by decide +kernel
theorem dX11_wiring_52 : decode cX11_wiring 52 = .ok (.getfield 117, 3) := by decide +kernel
theorem dX11_wiring_55 : decode cX11_wiring 55 = .ok (.iconst 2, 1) := by decide +kernel
theorem dX11_wiring_56 : decode cX11_wiring 56 = .ok (.iload_n 1, 1) := by decide +kernel
theorem dX11_wiring_57 : decode cX11_wiring 57 = .ok (.imul, 1) := by decide +kernel
theorem dX11_wiring_58 : decode cX11_wiring 58 = .ok (.iconst 1, 1) := by decide +kernel
theorem dX11_wiring_59 : decode cX11_wiring 59 = .ok (.iadd, 1) := by decide +kernel
theorem dX11_wiring_60 : decode cX11_wiring 60 = .ok (.iload_n 2, 1) := by decide +kernel
theorem dX11_wiring_61 : decode cX11_wiring 61 = .ok (.ldc 74, 2) := by decide +kernel
theorem dX11_wiring_63 : decode cX11_wiring 63 = .ok (.if_icmp .ne 8, 3) := by decide +kernel
theorem dX11_wiring_66 : decode cX11_wiring 66 = .ok (.ldc 74, 2) := by decide +kernel
theorem dX11_wiring_68 : decode cX11_wiring 68 = .ok (.goto 7, 3) := by decide +kernel
theorem dX11_wiring_71 : decode cX11_wiring 71 = .ok (.iload_n 2, 1) := by decide +kernel
theorem dX11_wiring_72 : decode cX11_wiring 72 = .ok (.bipush 100, 2) := by decide +kernel
theorem dX11_wiring_74 : decode cX11_wiring 74 = .ok (.irem, 1) := by decide +kernel
theorem dX11_wiring_75 : decode cX11_wiring 75 = .ok (.iastore, 1) := by decide +kernel
theorem dX11_wiring_76 : decode cX11_wiring 76 = .ok (.iinc 1 1, 3) := by decide +kernel
theorem dX11_wiring_79 : decode cX11_wiring 79 = .ok (.goto (-77), 3) := by decide +kernel
theorem dX11_wiring_82 : decode cX11_wiring 82 = .ok (.aload_n 0, 1) := by decide +kernel
theorem dX11_wiring_83 : decode cX11_wiring 83 = .ok (.getfield 10, 3) := by decide +kernel
theorem dX11_wiring_86 : decode cX11_wiring 86 = .ok (.getfield 190, 3) := by decide +kernel
theorem dX11_wiring_89 : decode cX11_wiring 89 = .ok (.aload_n 0, 1) := by decide +kernel
theorem dX11_wiring_90 : decode cX11_wiring 90 = .ok (.getfield 10, 3) := by decide +kernel
theorem dX11_wiring_93 : decode cX11_wiring 93 = .ok (.invokevirtual 193, 3) := by decide +kernel
theorem dX11_wiring_96 : decode cX11_wiring 96 = .ok (.isub, 1) := by decide +kernel
theorem dX11_wiring_97 : decode cX11_wiring 97 = .ok (.ireturn, 1) := by decide +kernel
theorem dX11_unlawful_0 : decode cX11_unlawful 0 = .ok (.iload_n 1, 1) := by decide +kernel
theorem dX11_unlawful_1 : decode cX11_unlawful 1 = .ok (.lookupswitch 43 #[(0, 27), (1, 35)], 27) := by decide +kernel
theorem dX11_unlawful_28 : decode cX11_unlawful 28 = .ok (.aload_n 0, 1) := by decide +kernel
theorem dX11_unlawful_29 : decode cX11_unlawful 29 = .ok (.getfield 10, 3) := by decide +kernel
theorem dX11_unlawful_32 : decode cX11_unlawful 32 = .ok (.invokevirtual 193, 3) := by decide +kernel
theorem dX11_unlawful_35 : decode cX11_unlawful 35 = .ok (.ireturn, 1) := by decide +kernel
theorem dX11_unlawful_36 : decode cX11_unlawful 36 = .ok (.aload_n 0, 1) := by decide +kernel
theorem dX11_unlawful_37 : decode cX11_unlawful 37 = .ok (.getfield 10, 3) := by decide +kernel
theorem dX11_unlawful_40 : decode cX11_unlawful 40 = .ok (.invokevirtual 196, 3) := by decide +kernel
theorem dX11_unlawful_43 : decode cX11_unlawful 43 = .ok (.ireturn, 1) := by decide +kernel
theorem dX11_unlawful_44 : decode cX11_unlawful 44 = .ok (.ldc 59, 2) := by decide +kernel
theorem dX11_unlawful_46 : decode cX11_unlawful 46 = .ok (.ireturn, 1) := by decide +kernel
theorem dX11_worst_0 : decode cX11_worst 0 = .ok (.iload_n 1, 1) := by decide +kernel
theorem dX11_worst_1 : decode cX11_worst 1 = .ok (.iconst 0, 1) := by decide +kernel
theorem dX11_worst_2 : decode cX11_worst 2 = .ok (.iconst 2, 1) := by decide +kernel
theorem dX11_worst_3 : decode cX11_worst 3 = .ok (.invokestatic 55, 3) := by decide +kernel
theorem dX11_worst_6 : decode cX11_worst 6 = .ok (.ifCond .ne 6, 3) := by decide +kernel
theorem dX11_worst_9 : decode cX11_worst 9 = .ok (.ldc 59, 2) := by decide +kernel
theorem dX11_worst_11 : decode cX11_worst 11 = .ok (.ireturn, 1) := by decide +kernel
theorem dX11_worst_12 : decode cX11_worst 12 = .ok (.aload_n 0, 1) := by decide +kernel
theorem dX11_worst_13 : decode cX11_worst 13 = .ok (.getfield 10, 3) := by decide +kernel
theorem dX11_worst_16 : decode cX11_worst 16 = .ok (.invokevirtual 171, 3) := by decide +kernel
theorem dX11_worst_19 : decode cX11_worst 19 = .ok (.ldc 74, 2) := by decide +kernel
theorem dX11_worst_21 : decode cX11_worst 21 = .ok (.istore_n 2, 1) := by decide +kernel
theorem dX11_worst_22 : decode cX11_worst 22 = .ok (.iconst 0, 1) := by decide +kernel
theorem dX11_worst_23 : decode cX11_worst 23 = .ok (.istore_n 3, 1) := by decide +kernel
theorem dX11_worst_24 : decode cX11_worst 24 = .ok (.iload_n 3, 1) := by decide +kernel
theorem dX11_worst_25 : decode cX11_worst 25 = .ok (.aload_n 0, 1) := by decide +kernel
theorem dX11_worst_26 : decode cX11_worst 26 = .ok (.getfield 10, 3) := by decide +kernel
theorem dX11_worst_29 : decode cX11_worst 29 = .ok (.getfield 126, 3) := by decide +kernel
theorem dX11_worst_32 : decode cX11_worst 32 = .ok (.if_icmp .ge 102, 3) := by decide +kernel
theorem dX11_worst_35 : decode cX11_worst 35 = .ok (.aload_n 0, 1) := by decide +kernel
theorem dX11_worst_36 : decode cX11_worst 36 = .ok (.getfield 10, 3) := by decide +kernel
theorem dX11_worst_39 : decode cX11_worst 39 = .ok (.iload_n 3, 1) := by decide +kernel
theorem dX11_worst_40 : decode cX11_worst 40 = .ok (.invokevirtual 140, 3) := by decide +kernel
theorem dX11_worst_43 : decode cX11_worst 43 = .ok (.astore 4, 2) := by decide +kernel
theorem dX11_worst_45 : decode cX11_worst 45 = .ok (.aload 4, 2) := by decide +kernel
theorem dX11_worst_47 : decode cX11_worst 47 = .ok (.ifnonnull 8, 3) := by decide +kernel
theorem dX11_worst_50 : decode cX11_worst 50 = .ok (.ldc 74, 2) := by decide +kernel
theorem dX11_worst_52 : decode cX11_worst 52 = .ok (.goto 26, 3) := by decide +kernel
theorem dX11_worst_55 : decode cX11_worst 55 = .ok (.aload_n 0, 1) := by decide +kernel
theorem dX11_worst_56 : decode cX11_worst 56 = .ok (.getfield 10, 3) := by decide +kernel
theorem dX11_worst_59 : decode cX11_worst 59 = .ok (.aload 4, 2) := by decide +kernel
theorem dX11_worst_61 : decode cX11_worst 61 = .ok (.getfield 147, 3) := by decide +kernel
theorem dX11_worst_64 : decode cX11_worst 64 = .ok (.aload_n 0, 1) := by decide +kernel
theorem dX11_worst_65 : decode cX11_worst 65 = .ok (.getfield 10, 3) := by decide +kernel
theorem dX11_worst_68 : decode cX11_worst 68 = .ok (.getfield 199, 3) := by decide +kernel
theorem dX11_worst_71 : decode cX11_worst 71 = .ok (.iload_n 3, 1) := by decide +kernel
theorem dX11_worst_72 : decode cX11_worst 72 = .ok (.bipush 12, 2) := by decide +kernel
theorem dX11_worst_74 : decode cX11_worst 74 = .ok (.imul, 1) := by decide +kernel
theorem dX11_worst_75 : decode cX11_worst 75 = .ok (.invokevirtual 202, 3) := by decide +kernel
theorem dX11_worst_78 : decode cX11_worst 78 = .ok (.istore 5, 2) := by decide +kernel
theorem dX11_worst_80 : decode cX11_worst 80 = .ok (.iload 5, 2) := by decide +kernel
theorem dX11_worst_82 : decode cX11_worst 82 = .ok (.ldc 74, 2) := by decide +kernel
theorem dX11_worst_84 : decode cX11_worst 84 = .ok (.if_icmp .eq 44, 3) := by decide +kernel
theorem dX11_worst_87 : decode cX11_worst 87 = .ok (.iload_n 2, 1) := by decide +kernel
theorem dX11_worst_88 : decode cX11_worst 88 = .ok (.ldc 74, 2) := by decide +kernel
theorem dX11_worst_90 : decode cX11_worst 90 = .ok (.if_icmp .eq 30, 3) := by decide +kernel
theorem dX11_worst_93 : decode cX11_worst 93 = .ok (.aload_n 0, 1) := by decide +kernel
theorem dX11_worst_94 : decode cX11_worst 94 = .ok (.getfield 10, 3) := by decide +kernel
theorem dX11_worst_97 : decode cX11_worst 97 = .ok (.getfield 199, 3) := by decide +kernel
theorem dX11_worst_100 : decode cX11_worst 100 = .ok (.iload_n 3, 1) := by decide +kernel
theorem dX11_worst_101 : decode cX11_worst 101 = .ok (.bipush 12, 2) := by decide +kernel
theorem dX11_worst_103 : decode cX11_worst 103 = .ok (.imul, 1) := by decide +kernel
theorem dX11_worst_104 : decode cX11_worst 104 = .ok (.iload 5, 2) := by decide +kernel
theorem dX11_worst_106 : decode cX11_worst 106 = .ok (.iadd, 1) := by decide +kernel
theorem dX11_worst_107 : decode cX11_worst 107 = .ok (.iaload, 1) := by decide +kernel
theorem dX11_worst_108 : decode cX11_worst 108 = .ok (.aload_n 0, 1) := by decide +kernel
theorem dX11_worst_109 : decode cX11_worst 109 = .ok (.getfield 10, 3) := by decide +kernel
theorem dX11_worst_112 : decode cX11_worst 112 = .ok (.getfield 199, 3) := by decide +kernel
theorem dX11_worst_115 : decode cX11_worst 115 = .ok (.iload_n 2, 1) := by decide +kernel
theorem dX11_worst_116 : decode cX11_worst 116 = .ok (.iaload, 1) := by decide +kernel
theorem dX11_worst_117 : decode cX11_worst 117 = .ok (.if_icmp .le 11, 3) := by decide +kernel
theorem dX11_worst_120 : decode cX11_worst 120 = .ok (.iload_n 3, 1) := by decide +kernel
theorem dX11_worst_121 : decode cX11_worst 121 = .ok (.bipush 12, 2) := by decide +kernel
theorem dX11_worst_123 : decode cX11_worst 123 = .ok (.imul, 1) := by decide +kernel
theorem dX11_worst_124 : decode cX11_worst 124 = .ok (.iload 5, 2) := by decide +kernel
theorem dX11_worst_126 : decode cX11_worst 126 = .ok (.iadd, 1) := by decide +kernel
theorem dX11_worst_127 : decode cX11_worst 127 = .ok (.istore_n 2, 1) := by decide +kernel
theorem dX11_worst_128 : decode cX11_worst 128 = .ok (.iinc 3 1, 3) := by decide +kernel
theorem dX11_worst_131 : decode cX11_worst 131 = .ok (.goto (-107), 3) := by decide +kernel
theorem dX11_worst_134 : decode cX11_worst 134 = .ok (.iload_n 2, 1) := by decide +kernel
theorem dX11_worst_135 : decode cX11_worst 135 = .ok (.ldc 74, 2) := by decide +kernel
theorem dX11_worst_137 : decode cX11_worst 137 = .ok (.if_icmp .ne 6, 3) := by decide +kernel
theorem dX11_worst_140 : decode cX11_worst 140 = .ok (.ldc 74, 2) := by decide +kernel
theorem dX11_worst_142 : decode cX11_worst 142 = .ok (.ireturn, 1) := by decide +kernel
theorem dX11_worst_143 : decode cX11_worst 143 = .ok (.iload_n 1, 1) := by decide +kernel
theorem dX11_worst_144 : decode cX11_worst 144 = .ok (.lookupswitch 38 #[(0, 28), (1, 33)], 28) := by decide +kernel
theorem dX11_worst_172 : decode cX11_worst 172 = .ok (.iload_n 2, 1) := by decide +kernel
theorem dX11_worst_173 : decode cX11_worst 173 = .ok (.bipush 12, 2) := by decide +kernel
theorem dX11_worst_175 : decode cX11_worst 175 = .ok (.idiv, 1) := by decide +kernel
theorem dX11_worst_176 : decode cX11_worst 176 = .ok (.ireturn, 1) := by decide +kernel
theorem dX11_worst_177 : decode cX11_worst 177 = .ok (.iload_n 2, 1) := by decide +kernel
theorem dX11_worst_178 : decode cX11_worst 178 = .ok (.bipush 12, 2) := by decide +kernel
theorem dX11_worst_180 : decode cX11_worst 180 = .ok (.irem, 1) := by decide +kernel
theorem dX11_worst_181 : decode cX11_worst 181 = .ok (.ireturn, 1) := by decide +kernel
theorem dX11_worst_182 : decode cX11_worst 182 = .ok (.aload_n 0, 1) := by decide +kernel
theorem dX11_worst_183 : decode cX11_worst 183 = .ok (.getfield 10, 3) := by decide +kernel
theorem dX11_worst_186 : decode cX11_worst 186 = .ok (.getfield 199, 3) := by decide +kernel
theorem dX11_worst_189 : decode cX11_worst 189 = .ok (.iload_n 2, 1) := by decide +kernel
theorem dX11_worst_190 : decode cX11_worst 190 = .ok (.iaload, 1) := by decide +kernel
theorem dX11_worst_191 : decode cX11_worst 191 = .ok (.ireturn, 1) := by decide +kernel
theorem dX11_heard_0 : decode cX11_heard 0 = .ok (.iload_n 1, 1) := by decide +kernel
theorem dX11_heard_1 : decode cX11_heard 1 = .ok (.iconst 0, 1) := by decide +kernel
theorem dX11_heard_2 : decode cX11_heard 2 = .ok (.iconst 1, 1) := by decide +kernel
theorem dX11_heard_3 : decode cX11_heard 3 = .ok (.aload_n 0, 1) := by decide +kernel
theorem dX11_heard_4 : decode cX11_heard 4 = .ok (.getfield 10, 3) := by decide +kernel
theorem dX11_heard_7 : decode cX11_heard 7 = .ok (.getfield 95, 3) := by decide +kernel
theorem dX11_heard_10 : decode cX11_heard 10 = .ok (.ishl, 1) := by decide +kernel
theorem dX11_heard_11 : decode cX11_heard 11 = .ok (.iconst 1, 1) := by decide +kernel
theorem dX11_heard_12 : decode cX11_heard 12 = .ok (.isub, 1) := by decide +kernel
theorem dX11_heard_13 : decode cX11_heard 13 = .ok (.invokestatic 55, 3) := by decide +kernel
theorem dX11_heard_16 : decode cX11_heard 16 = .ok (.ifCond .ne 6, 3) := by decide +kernel
theorem dX11_heard_19 : decode cX11_heard 19 = .ok (.ldc 59, 2) := by decide +kernel
theorem dX11_heard_21 : decode cX11_heard 21 = .ok (.ireturn, 1) := by decide +kernel
theorem dX11_heard_22 : decode cX11_heard 22 = .ok (.iconst 0, 1) := by decide +kernel
theorem dX11_heard_23 : decode cX11_heard 23 = .ok (.istore_n 2, 1) := by decide +kernel
theorem dX11_heard_24 : decode cX11_heard 24 = .ok (.iconst 0, 1) := by decide +kernel
theorem dX11_heard_25 : decode cX11_heard 25 = .ok (.istore_n 3, 1) := by decide +kernel
theorem dX11_heard_26 : decode cX11_heard 26 = .ok (.iload_n 3, 1) := by decide +kernel
theorem dX11_heard_27 : decode cX11_heard 27 = .ok (.aload_n 0, 1) := by decide +kernel
theorem dX11_heard_28 : decode cX11_heard 28 = .ok (.getfield 10, 3) := by decide +kernel
theorem dX11_heard_31 : decode cX11_heard 31 = .ok (.getfield 190, 3) := by decide +kernel
theorem dX11_heard_34 : decode cX11_heard 34 = .ok (.if_icmp .ge 28, 3) := by decide +kernel
theorem dX11_heard_37 : decode cX11_heard 37 = .ok (.aload_n 0, 1) := by decide +kernel
theorem dX11_heard_38 : decode cX11_heard 38 = .ok (.getfield 10, 3) := by decide +kernel
theorem dX11_heard_41 : decode cX11_heard 41 = .ok (.iload_n 3, 1) := by decide +kernel
theorem dX11_heard_42 : decode cX11_heard 42 = .ok (.invokevirtual 206, 3) := by decide +kernel
theorem dX11_heard_45 : decode cX11_heard 45 = .ok (.iload_n 1, 1) := by decide +kernel
theorem dX11_heard_46 : decode cX11_heard 46 = .ok (.iand, 1) := by decide +kernel
theorem dX11_heard_47 : decode cX11_heard 47 = .ok (.ifCond .eq 9, 3) := by decide +kernel
theorem dX11_heard_50 : decode cX11_heard 50 = .ok (.iload_n 2, 1) := by decide +kernel
theorem dX11_heard_51 : decode cX11_heard 51 = .ok (.iconst 1, 1) := by decide +kernel
theorem dX11_heard_52 : decode cX11_heard 52 = .ok (.iload_n 3, 1) := by decide +kernel
theorem dX11_heard_53 : decode cX11_heard 53 = .ok (.ishl, 1) := by decide +kernel
theorem dX11_heard_54 : decode cX11_heard 54 = .ok (.ior, 1) := by decide +kernel
theorem dX11_heard_55 : decode cX11_heard 55 = .ok (.istore_n 2, 1) := by decide +kernel
theorem dX11_heard_56 : decode cX11_heard 56 = .ok (.iinc 3 1, 3) := by decide +kernel
theorem dX11_heard_59 : decode cX11_heard 59 = .ok (.goto (-33), 3) := by decide +kernel
theorem dX11_heard_62 : decode cX11_heard 62 = .ok (.iload_n 2, 1) := by decide +kernel
theorem dX11_heard_63 : decode cX11_heard 63 = .ok (.ireturn, 1) := by decide +kernel
theorem dX11_fewest_0 : decode cX11_fewest 0 = .ok (.iconst 0, 1) := by decide +kernel
theorem dX11_fewest_1 : decode cX11_fewest 1 = .ok (.istore_n 1, 1) := by decide +kernel
theorem dX11_fewest_2 : decode cX11_fewest 2 = .ok (.iload_n 1, 1) := by decide +kernel
theorem dX11_fewest_3 : decode cX11_fewest 3 = .ok (.aload_n 0, 1) := by decide +kernel
theorem dX11_fewest_4 : decode cX11_fewest 4 = .ok (.getfield 10, 3) := by decide +kernel
theorem dX11_fewest_7 : decode cX11_fewest 7 = .ok (.getfield 190, 3) := by decide +kernel
theorem dX11_fewest_10 : decode cX11_fewest 10 = .ok (.if_icmp .ge 23, 3) := by decide +kernel
theorem dX11_fewest_13 : decode cX11_fewest 13 = .ok (.aload_n 0, 1) := by decide +kernel
theorem dX11_fewest_14 : decode cX11_fewest 14 = .ok (.getfield 50, 3) := by decide +kernel
theorem dX11_fewest_17 : decode cX11_fewest 17 = .ok (.iload_n 1, 1) := by decide +kernel
theorem dX11_fewest_18 : decode cX11_fewest 18 = .ok (.aload_n 0, 1) := by decide +kernel
theorem dX11_fewest_19 : decode cX11_fewest 19 = .ok (.getfield 10, 3) := by decide +kernel
theorem dX11_fewest_22 : decode cX11_fewest 22 = .ok (.iload_n 1, 1) := by decide +kernel
theorem dX11_fewest_23 : decode cX11_fewest 23 = .ok (.invokevirtual 206, 3) := by decide +kernel
theorem dX11_fewest_26 : decode cX11_fewest 26 = .ok (.iastore, 1) := by decide +kernel
theorem dX11_fewest_27 : decode cX11_fewest 27 = .ok (.iinc 1 1, 3) := by decide +kernel
theorem dX11_fewest_30 : decode cX11_fewest 30 = .ok (.goto (-28), 3) := by decide +kernel
theorem dX11_fewest_33 : decode cX11_fewest 33 = .ok (.iconst 1, 1) := by decide +kernel
theorem dX11_fewest_34 : decode cX11_fewest 34 = .ok (.aload_n 0, 1) := by decide +kernel
theorem dX11_fewest_35 : decode cX11_fewest 35 = .ok (.getfield 10, 3) := by decide +kernel
theorem dX11_fewest_38 : decode cX11_fewest 38 = .ok (.getfield 95, 3) := by decide +kernel
theorem dX11_fewest_41 : decode cX11_fewest 41 = .ok (.ishl, 1) := by decide +kernel
theorem dX11_fewest_42 : decode cX11_fewest 42 = .ok (.iconst 1, 1) := by decide +kernel
theorem dX11_fewest_43 : decode cX11_fewest 43 = .ok (.isub, 1) := by decide +kernel
theorem dX11_fewest_44 : decode cX11_fewest 44 = .ok (.istore_n 1, 1) := by decide +kernel
theorem dX11_fewest_45 : decode cX11_fewest 45 = .ok (.iload_n 1, 1) := by decide +kernel
theorem dX11_fewest_46 : decode cX11_fewest 46 = .ok (.istore_n 2, 1) := by decide +kernel
theorem dX11_fewest_47 : decode cX11_fewest 47 = .ok (.iload_n 2, 1) := by decide +kernel
theorem dX11_fewest_48 : decode cX11_fewest 48 = .ok (.ifCond .lt 30, 3) := by decide +kernel
theorem dX11_fewest_51 : decode cX11_fewest 51 = .ok (.iload_n 2, 1) := by decide +kernel
theorem dX11_fewest_52 : decode cX11_fewest 52 = .ok (.invokestatic 209, 3) := by decide +kernel
theorem dX11_fewest_55 : decode cX11_fewest 55 = .ok (.iload_n 1, 1) := by decide +kernel
theorem dX11_fewest_56 : decode cX11_fewest 56 = .ok (.invokestatic 209, 3) := by decide +kernel
theorem dX11_fewest_59 : decode cX11_fewest 59 = .ok (.if_icmp .gt 13, 3) := by decide +kernel
theorem dX11_fewest_62 : decode cX11_fewest 62 = .ok (.aload_n 0, 1) := by decide +kernel
theorem dX11_fewest_63 : decode cX11_fewest 63 = .ok (.iload_n 2, 1) := by decide +kernel
theorem dX11_fewest_64 : decode cX11_fewest 64 = .ok (.invokevirtual 214, 3) := by decide +kernel
theorem dX11_fewest_67 : decode cX11_fewest 67 = .ok (.ifCond .eq 5, 3) := by decide +kernel
theorem dX11_fewest_70 : decode cX11_fewest 70 = .ok (.iload_n 2, 1) := by decide +kernel
theorem dX11_fewest_71 : decode cX11_fewest 71 = .ok (.istore_n 1, 1) := by decide +kernel
theorem dX11_fewest_72 : decode cX11_fewest 72 = .ok (.iinc 2 (-1), 3) := by decide +kernel
theorem dX11_fewest_75 : decode cX11_fewest 75 = .ok (.goto (-28), 3) := by decide +kernel
theorem dX11_fewest_78 : decode cX11_fewest 78 = .ok (.iload_n 1, 1) := by decide +kernel
theorem dX11_fewest_79 : decode cX11_fewest 79 = .ok (.ireturn, 1) := by decide +kernel
theorem dX11_alike_0 : decode cX11_alike 0 = .ok (.iconst 0, 1) := by decide +kernel
theorem dX11_alike_1 : decode cX11_alike 1 = .ok (.istore_n 1, 1) := by decide +kernel
theorem dX11_alike_2 : decode cX11_alike 2 = .ok (.iconst 0, 1) := by decide +kernel
theorem dX11_alike_3 : decode cX11_alike 3 = .ok (.istore_n 2, 1) := by decide +kernel
theorem dX11_alike_4 : decode cX11_alike 4 = .ok (.iload_n 2, 1) := by decide +kernel
theorem dX11_alike_5 : decode cX11_alike 5 = .ok (.aload_n 0, 1) := by decide +kernel
theorem dX11_alike_6 : decode cX11_alike 6 = .ok (.getfield 10, 3) := by decide +kernel
theorem dX11_alike_9 : decode cX11_alike 9 = .ok (.getfield 190, 3) := by decide +kernel
theorem dX11_alike_12 : decode cX11_alike 12 = .ok (.if_icmp .ge 52, 3) := by decide +kernel
theorem dX11_alike_15 : decode cX11_alike 15 = .ok (.iload_n 2, 1) := by decide +kernel
theorem dX11_alike_16 : decode cX11_alike 16 = .ok (.iconst 1, 1) := by decide +kernel
theorem dX11_alike_17 : decode cX11_alike 17 = .ok (.iadd, 1) := by decide +kernel
theorem dX11_alike_18 : decode cX11_alike 18 = .ok (.istore_n 3, 1) := by decide +kernel
theorem dX11_alike_19 : decode cX11_alike 19 = .ok (.iload_n 3, 1) := by decide +kernel
theorem dX11_alike_20 : decode cX11_alike 20 = .ok (.aload_n 0, 1) := by decide +kernel
theorem dX11_alike_21 : decode cX11_alike 21 = .ok (.getfield 10, 3) := by decide +kernel
theorem dX11_alike_24 : decode cX11_alike 24 = .ok (.getfield 190, 3) := by decide +kernel
theorem dX11_alike_27 : decode cX11_alike 27 = .ok (.if_icmp .ge 31, 3) := by decide +kernel
theorem dX11_alike_30 : decode cX11_alike 30 = .ok (.aload_n 0, 1) := by decide +kernel
theorem dX11_alike_31 : decode cX11_alike 31 = .ok (.getfield 10, 3) := by decide +kernel
theorem dX11_alike_34 : decode cX11_alike 34 = .ok (.iload_n 2, 1) := by decide +kernel
theorem dX11_alike_35 : decode cX11_alike 35 = .ok (.invokevirtual 206, 3) := by decide +kernel
theorem dX11_alike_38 : decode cX11_alike 38 = .ok (.aload_n 0, 1) := by decide +kernel
theorem dX11_alike_39 : decode cX11_alike 39 = .ok (.getfield 10, 3) := by decide +kernel
theorem dX11_alike_42 : decode cX11_alike 42 = .ok (.iload_n 3, 1) := by decide +kernel
theorem dX11_alike_43 : decode cX11_alike 43 = .ok (.invokevirtual 206, 3) := by decide +kernel
theorem dX11_alike_46 : decode cX11_alike 46 = .ok (.if_icmp .ne 6, 3) := by decide +kernel
theorem dX11_alike_49 : decode cX11_alike 49 = .ok (.iinc 1 1, 3) := by decide +kernel
theorem dX11_alike_52 : decode cX11_alike 52 = .ok (.iinc 3 1, 3) := by decide +kernel
theorem dX11_alike_55 : decode cX11_alike 55 = .ok (.goto (-36), 3) := by decide +kernel
theorem dX11_alike_58 : decode cX11_alike 58 = .ok (.iinc 2 1, 3) := by decide +kernel
theorem dX11_alike_61 : decode cX11_alike 61 = .ok (.goto (-57), 3) := by decide +kernel
theorem dX11_alike_64 : decode cX11_alike 64 = .ok (.iload_n 1, 1) := by decide +kernel
theorem dX11_alike_65 : decode cX11_alike 65 = .ok (.ireturn, 1) := by decide +kernel
theorem dX11_feed_0 : decode cX11_feed 0 = .ok (.aload_n 0, 1) := by decide +kernel
theorem dX11_feed_1 : decode cX11_feed 1 = .ok (.getfield 26, 3) := by decide +kernel
theorem dX11_feed_4 : decode cX11_feed 4 = .ok (.getfield 217, 3) := by decide +kernel
theorem dX11_feed_7 : decode cX11_feed 7 = .ok (.bipush 84, 2) := by decide +kernel
theorem dX11_feed_9 : decode cX11_feed 9 = .ok (.if_icmp .le 6, 3) := by decide +kernel
theorem dX11_feed_12 : decode cX11_feed 12 = .ok (.ldc 129, 2) := by decide +kernel
theorem dX11_feed_14 : decode cX11_feed 14 = .ok (.ireturn, 1) := by decide +kernel
theorem dX11_feed_15 : decode cX11_feed 15 = .ok (.aload_n 0, 1) := by decide +kernel
theorem dX11_feed_16 : decode cX11_feed 16 = .ok (.getfield 26, 3) := by decide +kernel
theorem dX11_feed_19 : decode cX11_feed 19 = .ok (.iload_n 1, 1) := by decide +kernel
theorem dX11_feed_20 : decode cX11_feed 20 = .ok (.invokevirtual 220, 3) := by decide +kernel
theorem dX11_feed_23 : decode cX11_feed 23 = .ok (.aload_n 0, 1) := by decide +kernel
theorem dX11_feed_24 : decode cX11_feed 24 = .ok (.getfield 26, 3) := by decide +kernel
theorem dX11_feed_27 : decode cX11_feed 27 = .ok (.iload_n 2, 1) := by decide +kernel
theorem dX11_feed_28 : decode cX11_feed 28 = .ok (.invokevirtual 220, 3) := by decide +kernel
theorem dX11_feed_31 : decode cX11_feed 31 = .ok (.aload_n 0, 1) := by decide +kernel
theorem dX11_feed_32 : decode cX11_feed 32 = .ok (.getfield 26, 3) := by decide +kernel
theorem dX11_feed_35 : decode cX11_feed 35 = .ok (.iload_n 3, 1) := by decide +kernel
theorem dX11_feed_36 : decode cX11_feed 36 = .ok (.invokevirtual 220, 3) := by decide +kernel
theorem dX11_feed_39 : decode cX11_feed 39 = .ok (.aload_n 0, 1) := by decide +kernel
theorem dX11_feed_40 : decode cX11_feed 40 = .ok (.getfield 26, 3) := by decide +kernel
theorem dX11_feed_43 : decode cX11_feed 43 = .ok (.getfield 217, 3) := by decide +kernel
theorem dX11_feed_46 : decode cX11_feed 46 = .ok (.ireturn, 1) := by decide +kernel
theorem dX11_trim_0 : decode cX11_trim 0 = .ok (.iload_n 1, 1) := by decide +kernel
theorem dX11_trim_1 : decode cX11_trim 1 = .ok (.iconst 0, 1) := by decide +kernel
theorem dX11_trim_2 : decode cX11_trim 2 = .ok (.aload_n 0, 1) := by decide +kernel
theorem dX11_trim_3 : decode cX11_trim 3 = .ok (.getfield 26, 3) := by decide +kernel
theorem dX11_trim_6 : decode cX11_trim 6 = .ok (.getfield 217, 3) := by decide +kernel
theorem dX11_trim_9 : decode cX11_trim 9 = .ok (.invokestatic 55, 3) := by decide +kernel
theorem dX11_trim_12 : decode cX11_trim 12 = .ok (.ifCond .ne 6, 3) := by decide +kernel
theorem dX11_trim_15 : decode cX11_trim 15 = .ok (.ldc 59, 2) := by decide +kernel
theorem dX11_trim_17 : decode cX11_trim 17 = .ok (.ireturn, 1) := by decide +kernel
theorem dX11_trim_18 : decode cX11_trim 18 = .ok (.aload_n 0, 1) := by decide +kernel
theorem dX11_trim_19 : decode cX11_trim 19 = .ok (.getfield 26, 3) := by decide +kernel
theorem dX11_trim_22 : decode cX11_trim 22 = .ok (.iload_n 1, 1) := by decide +kernel
theorem dX11_trim_23 : decode cX11_trim 23 = .ok (.putfield 217, 3) := by decide +kernel
theorem dX11_trim_26 : decode cX11_trim 26 = .ok (.iload_n 1, 1) := by decide +kernel
theorem dX11_trim_27 : decode cX11_trim 27 = .ok (.ireturn, 1) := by decide +kernel
theorem dX11_text_0 : decode cX11_text 0 = .ok (.aload_n 0, 1) := by decide +kernel
theorem dX11_text_1 : decode cX11_text 1 = .ok (.getfield 26, 3) := by decide +kernel
theorem dX11_text_4 : decode cX11_text 4 = .ok (.invokevirtual 224, 3) := by decide +kernel
theorem dX11_text_7 : decode cX11_text 7 = .ok (.istore_n 1, 1) := by decide +kernel
theorem dX11_text_8 : decode cX11_text 8 = .ok (.aload_n 0, 1) := by decide +kernel
theorem dX11_text_9 : decode cX11_text 9 = .ok (.getfield 26, 3) := by decide +kernel
theorem dX11_text_12 : decode cX11_text 12 = .ok (.iconst 0, 1) := by decide +kernel
theorem dX11_text_13 : decode cX11_text 13 = .ok (.putfield 217, 3) := by decide +kernel
theorem dX11_text_16 : decode cX11_text 16 = .ok (.iload_n 1, 1) := by decide +kernel
theorem dX11_text_17 : decode cX11_text 17 = .ok (.ldc 74, 2) := by decide +kernel
theorem dX11_text_19 : decode cX11_text 19 = .ok (.if_icmp .eq 8, 3) := by decide +kernel
theorem dX11_text_22 : decode cX11_text 22 = .ok (.bipush (-100), 2) := by decide +kernel
theorem dX11_text_24 : decode cX11_text 24 = .ok (.iload_n 1, 1) := by decide +kernel
theorem dX11_text_25 : decode cX11_text 25 = .ok (.isub, 1) := by decide +kernel
theorem dX11_text_26 : decode cX11_text 26 = .ok (.ireturn, 1) := by decide +kernel
theorem dX11_text_27 : decode cX11_text 27 = .ok (.aload_n 0, 1) := by decide +kernel
theorem dX11_text_28 : decode cX11_text 28 = .ok (.getfield 10, 3) := by decide +kernel
theorem dX11_text_31 : decode cX11_text 31 = .ok (.getfield 227, 3) := by decide +kernel
theorem dX11_text_34 : decode cX11_text 34 = .ok (.bipush 14, 2) := by decide +kernel
theorem dX11_text_36 : decode cX11_text 36 = .ok (.if_icmp .lt 6, 3) := by decide +kernel
theorem dX11_text_39 : decode cX11_text 39 = .ok (.ldc 129, 2) := by decide +kernel
theorem dX11_text_41 : decode cX11_text 41 = .ok (.ireturn, 1) := by decide +kernel
theorem dX11_text_42 : decode cX11_text 42 = .ok (.aload_n 0, 1) := by decide +kernel
theorem dX11_text_43 : decode cX11_text 43 = .ok (.getfield 10, 3) := by decide +kernel
theorem dX11_text_46 : decode cX11_text 46 = .ok (.getfield 230, 3) := by decide +kernel
theorem dX11_text_49 : decode cX11_text 49 = .ok (.aload_n 0, 1) := by decide +kernel
theorem dX11_text_50 : decode cX11_text 50 = .ok (.getfield 10, 3) := by decide +kernel
theorem dX11_text_53 : decode cX11_text 53 = .ok (.getfield 227, 3) := by decide +kernel
theorem dX11_text_56 : decode cX11_text 56 = .ok (.aload_n 0, 1) := by decide +kernel
theorem dX11_text_57 : decode cX11_text 57 = .ok (.getfield 26, 3) := by decide +kernel
theorem dX11_text_60 : decode cX11_text 60 = .ok (.invokevirtual 234, 3) := by decide +kernel
theorem dX11_text_63 : decode cX11_text 63 = .ok (.aastore, 1) := by decide +kernel
theorem dX11_text_64 : decode cX11_text 64 = .ok (.aload_n 0, 1) := by decide +kernel
theorem dX11_text_65 : decode cX11_text 65 = .ok (.getfield 10, 3) := by decide +kernel
theorem dX11_text_68 : decode cX11_text 68 = .ok (.dup, 1) := by decide +kernel
theorem dX11_text_69 : decode cX11_text 69 = .ok (.getfield 227, 3) := by decide +kernel
theorem dX11_text_72 : decode cX11_text 72 = .ok (.iconst 1, 1) := by decide +kernel
theorem dX11_text_73 : decode cX11_text 73 = .ok (.iadd, 1) := by decide +kernel
theorem dX11_text_74 : decode cX11_text 74 = .ok (.putfield 227, 3) := by decide +kernel
theorem dX11_text_77 : decode cX11_text 77 = .ok (.aload_n 0, 1) := by decide +kernel
theorem dX11_text_78 : decode cX11_text 78 = .ok (.getfield 10, 3) := by decide +kernel
theorem dX11_text_81 : decode cX11_text 81 = .ok (.getfield 227, 3) := by decide +kernel
theorem dX11_text_84 : decode cX11_text 84 = .ok (.iconst 1, 1) := by decide +kernel
theorem dX11_text_85 : decode cX11_text 85 = .ok (.isub, 1) := by decide +kernel
theorem dX11_text_86 : decode cX11_text 86 = .ok (.ireturn, 1) := by decide +kernel
theorem dX11_textTold_0 : decode cX11_textTold 0 = .ok (.aload_n 0, 1) := by decide +kernel
theorem dX11_textTold_1 : decode cX11_textTold 1 = .ok (.getfield 10, 3) := by decide +kernel
theorem dX11_textTold_4 : decode cX11_textTold 4 = .ok (.iload_n 1, 1) := by decide +kernel
theorem dX11_textTold_5 : decode cX11_textTold 5 = .ok (.invokevirtual 238, 3) := by decide +kernel
theorem dX11_textTold_8 : decode cX11_textTold 8 = .ok (.astore_n 3, 1) := by decide +kernel
theorem dX11_textTold_9 : decode cX11_textTold 9 = .ok (.aload_n 3, 1) := by decide +kernel
theorem dX11_textTold_10 : decode cX11_textTold 10 = .ok (.ifnonnull 6, 3) := by decide +kernel
theorem dX11_textTold_13 : decode cX11_textTold 13 = .ok (.ldc 59, 2) := by decide +kernel
theorem dX11_textTold_15 : decode cX11_textTold 15 = .ok (.ireturn, 1) := by decide +kernel
theorem dX11_textTold_16 : decode cX11_textTold 16 = .ok (.iload_n 2, 1) := by decide +kernel
theorem dX11_textTold_17 : decode cX11_textTold 17 = .ok (.lookupswitch 37 #[(0, 27), (1, 32)], 27) := by decide +kernel
theorem dX11_textTold_44 : decode cX11_textTold 44 = .ok (.aload_n 3, 1) := by decide +kernel
theorem dX11_textTold_45 : decode cX11_textTold 45 = .ok (.getfield 242, 3) := by decide +kernel
theorem dX11_textTold_48 : decode cX11_textTold 48 = .ok (.ireturn, 1) := by decide +kernel
theorem dX11_textTold_49 : decode cX11_textTold 49 = .ok (.aload_n 3, 1) := by decide +kernel
theorem dX11_textTold_50 : decode cX11_textTold 50 = .ok (.getfield 247, 3) := by decide +kernel
theorem dX11_textTold_53 : decode cX11_textTold 53 = .ok (.ireturn, 1) := by decide +kernel
theorem dX11_textTold_54 : decode cX11_textTold 54 = .ok (.ldc 59, 2) := by decide +kernel
theorem dX11_textTold_56 : decode cX11_textTold 56 = .ok (.ireturn, 1) := by decide +kernel
theorem dX11_why_0 : decode cX11_why 0 = .ok (.iload_n 1, 1) := by decide +kernel
theorem dX11_why_1 : decode cX11_why 1 = .ok (.iconst 0, 1) := by decide +kernel
theorem dX11_why_2 : decode cX11_why 2 = .ok (.iconst 2, 1) := by decide +kernel
theorem dX11_why_3 : decode cX11_why 3 = .ok (.invokestatic 55, 3) := by decide +kernel
theorem dX11_why_6 : decode cX11_why 6 = .ok (.ifCond .eq 14, 3) := by decide +kernel
theorem dX11_why_9 : decode cX11_why 9 = .ok (.aload_n 0, 1) := by decide +kernel
theorem dX11_why_10 : decode cX11_why 10 = .ok (.getfield 10, 3) := by decide +kernel
theorem dX11_why_13 : decode cX11_why 13 = .ok (.iload_n 1, 1) := by decide +kernel
theorem dX11_why_14 : decode cX11_why 14 = .ok (.invokevirtual 250, 3) := by decide +kernel
theorem dX11_why_17 : decode cX11_why 17 = .ok (.goto 5, 3) := by decide +kernel
theorem dX11_why_20 : decode cX11_why 20 = .ok (.ldc 59, 2) := by decide +kernel
theorem dX11_why_22 : decode cX11_why 22 = .ok (.ireturn, 1) := by decide +kernel
theorem dX11_sheet_0 : decode cX11_sheet 0 = .ok (.aload_n 0, 1) := by decide +kernel
theorem dX11_sheet_1 : decode cX11_sheet 1 = .ok (.iload_n 1, 1) := by decide +kernel
theorem dX11_sheet_2 : decode cX11_sheet 2 = .ok (.invokevirtual 253, 3) := by decide +kernel
theorem dX11_sheet_5 : decode cX11_sheet 5 = .ok (.astore 4, 2) := by decide +kernel
theorem dX11_sheet_7 : decode cX11_sheet 7 = .ok (.aload 4, 2) := by decide +kernel
theorem dX11_sheet_9 : decode cX11_sheet 9 = .ok (.ifnull 12, 3) := by decide +kernel
theorem dX11_sheet_12 : decode cX11_sheet 12 = .ok (.iload_n 2, 1) := by decide +kernel
theorem dX11_sheet_13 : decode cX11_sheet 13 = .ok (.iconst (-1), 1) := by decide +kernel
theorem dX11_sheet_14 : decode cX11_sheet 14 = .ok (.iconst 1, 1) := by decide +kernel
theorem dX11_sheet_15 : decode cX11_sheet 15 = .ok (.invokestatic 55, 3) := by decide +kernel
theorem dX11_sheet_18 : decode cX11_sheet 18 = .ok (.ifCond .ne 6, 3) := by decide +kernel
theorem dX11_sheet_21 : decode cX11_sheet 21 = .ok (.ldc 59, 2) := by decide +kernel
theorem dX11_sheet_23 : decode cX11_sheet 23 = .ok (.ireturn, 1) := by decide +kernel
theorem dX11_sheet_24 : decode cX11_sheet 24 = .ok (.iload_n 2, 1) := by decide +kernel
theorem dX11_sheet_25 : decode cX11_sheet 25 = .ok (.iconst (-1), 1) := by decide +kernel
theorem dX11_sheet_26 : decode cX11_sheet 26 = .ok (.if_icmp .ne 17, 3) := by decide +kernel
theorem dX11_sheet_29 : decode cX11_sheet 29 = .ok (.aload 4, 2) := by decide +kernel
theorem dX11_sheet_31 : decode cX11_sheet 31 = .ok (.iconst (-1), 1) := by decide +kernel
theorem dX11_sheet_32 : decode cX11_sheet 32 = .ok (.putfield 257, 3) := by decide +kernel
theorem dX11_sheet_35 : decode cX11_sheet 35 = .ok (.aload 4, 2) := by decide +kernel
theorem dX11_sheet_37 : decode cX11_sheet 37 = .ok (.iconst 0, 1) := by decide +kernel
theorem dX11_sheet_38 : decode cX11_sheet 38 = .ok (.putfield 260, 3) := by decide +kernel
theorem dX11_sheet_41 : decode cX11_sheet 41 = .ok (.iconst 0, 1) := by decide +kernel
theorem dX11_sheet_42 : decode cX11_sheet 42 = .ok (.ireturn, 1) := by decide +kernel
theorem dX11_sheet_43 : decode cX11_sheet 43 = .ok (.iload_n 3, 1) := by decide +kernel
theorem dX11_sheet_44 : decode cX11_sheet 44 = .ok (.bipush 24, 2) := by decide +kernel
theorem dX11_sheet_46 : decode cX11_sheet 46 = .ok (.if_icmp .le 6, 3) := by decide +kernel
theorem dX11_sheet_49 : decode cX11_sheet 49 = .ok (.ldc 59, 2) := by decide +kernel
theorem dX11_sheet_51 : decode cX11_sheet 51 = .ok (.ireturn, 1) := by decide +kernel
theorem dX11_sheet_52 : decode cX11_sheet 52 = .ok (.iload_n 3, 1) := by decide +kernel
theorem dX11_sheet_53 : decode cX11_sheet 53 = .ok (.ifCond .ge 7, 3) := by decide +kernel
theorem dX11_sheet_56 : decode cX11_sheet 56 = .ok (.ldc_w 261, 3) := by decide +kernel
theorem dX11_sheet_59 : decode cX11_sheet 59 = .ok (.ireturn, 1) := by decide +kernel
theorem dX11_sheet_60 : decode cX11_sheet 60 = .ok (.aload 4, 2) := by decide +kernel
theorem dX11_sheet_62 : decode cX11_sheet 62 = .ok (.iload_n 2, 1) := by decide +kernel
theorem dX11_sheet_63 : decode cX11_sheet 63 = .ok (.putfield 257, 3) := by decide +kernel
theorem dX11_sheet_66 : decode cX11_sheet 66 = .ok (.aload 4, 2) := by decide +kernel
theorem dX11_sheet_68 : decode cX11_sheet 68 = .ok (.iload_n 3, 1) := by decide +kernel
theorem dX11_sheet_69 : decode cX11_sheet 69 = .ok (.putfield 260, 3) := by decide +kernel
theorem dX11_sheet_72 : decode cX11_sheet 72 = .ok (.aload 4, 2) := by decide +kernel
theorem dX11_sheet_74 : decode cX11_sheet 74 = .ok (.getfield 262, 3) := by decide +kernel
theorem dX11_sheet_77 : decode cX11_sheet 77 = .ok (.iconst 0, 1) := by decide +kernel
theorem dX11_sheet_78 : decode cX11_sheet 78 = .ok (.invokestatic 265, 3) := by decide +kernel
theorem dX11_sheet_81 : decode cX11_sheet 81 = .ok (.iload_n 3, 1) := by decide +kernel
theorem dX11_sheet_82 : decode cX11_sheet 82 = .ok (.ireturn, 1) := by decide +kernel
theorem dX11_mark_0 : decode cX11_mark 0 = .ok (.aload_n 0, 1) := by decide +kernel
theorem dX11_mark_1 : decode cX11_mark 1 = .ok (.iload_n 1, 1) := by decide +kernel
theorem dX11_mark_2 : decode cX11_mark 2 = .ok (.invokevirtual 253, 3) := by decide +kernel
theorem dX11_mark_5 : decode cX11_mark 5 = .ok (.astore 4, 2) := by decide +kernel
theorem dX11_mark_7 : decode cX11_mark 7 = .ok (.aload 4, 2) := by decide +kernel
theorem dX11_mark_9 : decode cX11_mark 9 = .ok (.ifnonnull 6, 3) := by decide +kernel
theorem dX11_mark_12 : decode cX11_mark 12 = .ok (.ldc 59, 2) := by decide +kernel
theorem dX11_mark_14 : decode cX11_mark 14 = .ok (.ireturn, 1) := by decide +kernel
theorem dX11_mark_15 : decode cX11_mark 15 = .ok (.aload 4, 2) := by decide +kernel
theorem dX11_mark_17 : decode cX11_mark 17 = .ok (.getfield 257, 3) := by decide +kernel
theorem dX11_mark_20 : decode cX11_mark 20 = .ok (.iconst (-1), 1) := by decide +kernel
theorem dX11_mark_21 : decode cX11_mark 21 = .ok (.if_icmp .ne 7, 3) := by decide +kernel
theorem dX11_mark_24 : decode cX11_mark 24 = .ok (.ldc_w 271, 3) := by decide +kernel
theorem dX11_mark_27 : decode cX11_mark 27 = .ok (.ireturn, 1) := by decide +kernel
theorem dX11_mark_28 : decode cX11_mark 28 = .ok (.aload 4, 2) := by decide +kernel
theorem dX11_mark_30 : decode cX11_mark 30 = .ok (.iload_n 2, 1) := by decide +kernel
theorem dX11_mark_31 : decode cX11_mark 31 = .ok (.invokevirtual 272, 3) := by decide +kernel
theorem dX11_mark_34 : decode cX11_mark 34 = .ok (.ifCond .ne 7, 3) := by decide +kernel
theorem dX11_mark_37 : decode cX11_mark 37 = .ok (.ldc_w 275, 3) := by decide +kernel
theorem dX11_mark_40 : decode cX11_mark 40 = .ok (.ireturn, 1) := by decide +kernel
theorem dX11_mark_41 : decode cX11_mark 41 = .ok (.aload 4, 2) := by decide +kernel
theorem dX11_mark_43 : decode cX11_mark 43 = .ok (.getfield 257, 3) := by decide +kernel
theorem dX11_mark_46 : decode cX11_mark 46 = .ok (.ifCond .ne 23, 3) := by decide +kernel
theorem dX11_mark_49 : decode cX11_mark 49 = .ok (.iload_n 3, 1) := by decide +kernel
theorem dX11_mark_50 : decode cX11_mark 50 = .ok (.ldc 74, 2) := by decide +kernel
theorem dX11_mark_52 : decode cX11_mark 52 = .ok (.if_icmp .ne 6, 3) := by decide +kernel
theorem dX11_mark_55 : decode cX11_mark 55 = .ok (.ldc 156, 2) := by decide +kernel
theorem dX11_mark_57 : decode cX11_mark 57 = .ok (.ireturn, 1) := by decide +kernel
theorem dX11_mark_58 : decode cX11_mark 58 = .ok (.aload 4, 2) := by decide +kernel
theorem dX11_mark_60 : decode cX11_mark 60 = .ok (.getfield 262, 3) := by decide +kernel
theorem dX11_mark_63 : decode cX11_mark 63 = .ok (.iload_n 2, 1) := by decide +kernel
theorem dX11_mark_64 : decode cX11_mark 64 = .ok (.iload_n 3, 1) := by decide +kernel
theorem dX11_mark_65 : decode cX11_mark 65 = .ok (.i2s, 1) := by decide +kernel
theorem dX11_mark_66 : decode cX11_mark 66 = .ok (.iastore, 1) := by decide +kernel
theorem dX11_mark_67 : decode cX11_mark 67 = .ok (.iconst 1, 1) := by decide +kernel
theorem dX11_mark_68 : decode cX11_mark 68 = .ok (.ireturn, 1) := by decide +kernel
theorem dX11_mark_69 : decode cX11_mark 69 = .ok (.iload_n 3, 1) := by decide +kernel
theorem dX11_mark_70 : decode cX11_mark 70 = .ok (.ldc 74, 2) := by decide +kernel
theorem dX11_mark_72 : decode cX11_mark 72 = .ok (.if_icmp .eq 19, 3) := by decide +kernel
theorem dX11_mark_75 : decode cX11_mark 75 = .ok (.iload_n 3, 1) := by decide +kernel
theorem dX11_mark_76 : decode cX11_mark 76 = .ok (.ldc_w 276, 3) := by decide +kernel
theorem dX11_mark_79 : decode cX11_mark 79 = .ok (.ldc_w 277, 3) := by decide +kernel
theorem dX11_mark_82 : decode cX11_mark 82 = .ok (.invokestatic 55, 3) := by decide +kernel
theorem dX11_mark_85 : decode cX11_mark 85 = .ok (.ifCond .ne 6, 3) := by decide +kernel
theorem dX11_mark_88 : decode cX11_mark 88 = .ok (.ldc 59, 2) := by decide +kernel
theorem dX11_mark_90 : decode cX11_mark 90 = .ok (.ireturn, 1) := by decide +kernel
theorem dX11_mark_91 : decode cX11_mark 91 = .ok (.aload 4, 2) := by decide +kernel
theorem dX11_mark_93 : decode cX11_mark 93 = .ok (.getfield 262, 3) := by decide +kernel
theorem dX11_mark_96 : decode cX11_mark 96 = .ok (.iload_n 2, 1) := by decide +kernel
theorem dX11_mark_97 : decode cX11_mark 97 = .ok (.iload_n 3, 1) := by decide +kernel
theorem dX11_mark_98 : decode cX11_mark 98 = .ok (.iastore, 1) := by decide +kernel
theorem dX11_mark_99 : decode cX11_mark 99 = .ok (.iconst 1, 1) := by decide +kernel
theorem dX11_mark_100 : decode cX11_mark 100 = .ok (.ireturn, 1) := by decide +kernel
theorem dX11_pour_0 : decode cX11_pour 0 = .ok (.aload_n 0, 1) := by decide +kernel
theorem dX11_pour_1 : decode cX11_pour 1 = .ok (.iload_n 1, 1) := by decide +kernel
theorem dX11_pour_2 : decode cX11_pour 2 = .ok (.invokevirtual 253, 3) := by decide +kernel
theorem dX11_pour_5 : decode cX11_pour 5 = .ok (.astore_n 2, 1) := by decide +kernel
theorem dX11_pour_6 : decode cX11_pour 6 = .ok (.aload_n 2, 1) := by decide +kernel
theorem dX11_pour_7 : decode cX11_pour 7 = .ok (.ifnonnull 6, 3) := by decide +kernel
theorem dX11_pour_10 : decode cX11_pour 10 = .ok (.ldc 59, 2) := by decide +kernel
theorem dX11_pour_12 : decode cX11_pour 12 = .ok (.ireturn, 1) := by decide +kernel
theorem dX11_pour_13 : decode cX11_pour 13 = .ok (.aload_n 2, 1) := by decide +kernel
theorem dX11_pour_14 : decode cX11_pour 14 = .ok (.getfield 257, 3) := by decide +kernel
theorem dX11_pour_17 : decode cX11_pour 17 = .ok (.iconst (-1), 1) := by decide +kernel
theorem dX11_pour_18 : decode cX11_pour 18 = .ok (.if_icmp .ne 7, 3) := by decide +kernel
theorem dX11_pour_21 : decode cX11_pour 21 = .ok (.ldc_w 271, 3) := by decide +kernel
theorem dX11_pour_24 : decode cX11_pour 24 = .ok (.ireturn, 1) := by decide +kernel
theorem dX11_pour_25 : decode cX11_pour 25 = .ok (.iconst 0, 1) := by decide +kernel
theorem dX11_pour_26 : decode cX11_pour 26 = .ok (.istore_n 3, 1) := by decide +kernel
theorem dX11_pour_27 : decode cX11_pour 27 = .ok (.iconst 0, 1) := by decide +kernel
theorem dX11_pour_28 : decode cX11_pour 28 = .ok (.istore 4, 2) := by decide +kernel
theorem dX11_pour_30 : decode cX11_pour 30 = .ok (.iload 4, 2) := by decide +kernel
theorem dX11_pour_32 : decode cX11_pour 32 = .ok (.aload_n 2, 1) := by decide +kernel
theorem dX11_pour_33 : decode cX11_pour 33 = .ok (.getfield 260, 3) := by decide +kernel
theorem dX11_pour_36 : decode cX11_pour 36 = .ok (.if_icmp .ge 84, 3) := by decide +kernel
theorem dX11_pour_39 : decode cX11_pour 39 = .ok (.iload 4, 2) := by decide +kernel
theorem dX11_pour_41 : decode cX11_pour 41 = .ok (.iconst 2, 1) := by decide +kernel
theorem dX11_pour_42 : decode cX11_pour 42 = .ok (.aload_n 0, 1) := by decide +kernel
theorem dX11_pour_43 : decode cX11_pour 43 = .ok (.getfield 10, 3) := by decide +kernel
theorem dX11_pour_46 : decode cX11_pour 46 = .ok (.getfield 190, 3) := by decide +kernel
theorem dX11_pour_49 : decode cX11_pour 49 = .ok (.imul, 1) := by decide +kernel
theorem dX11_pour_50 : decode cX11_pour 50 = .ok (.if_icmp .ge 70, 3) := by decide +kernel
theorem dX11_pour_53 : decode cX11_pour 53 = .ok (.aload_n 0, 1) := by decide +kernel
theorem dX11_pour_54 : decode cX11_pour 54 = .ok (.getfield 10, 3) := by decide +kernel
theorem dX11_pour_57 : decode cX11_pour 57 = .ok (.aload_n 2, 1) := by decide +kernel
theorem dX11_pour_58 : decode cX11_pour 58 = .ok (.getfield 262, 3) := by decide +kernel
theorem dX11_pour_61 : decode cX11_pour 61 = .ok (.iload 4, 2) := by decide +kernel
theorem dX11_pour_63 : decode cX11_pour 63 = .ok (.iaload, 1) := by decide +kernel
theorem dX11_pour_64 : decode cX11_pour 64 = .ok (.invokevirtual 64, 3) := by decide +kernel
theorem dX11_pour_67 : decode cX11_pour 67 = .ok (.ifCond .eq 13, 3) := by decide +kernel
theorem dX11_pour_70 : decode cX11_pour 70 = .ok (.aload_n 2, 1) := by decide +kernel
theorem dX11_pour_71 : decode cX11_pour 71 = .ok (.getfield 262, 3) := by decide +kernel
theorem dX11_pour_74 : decode cX11_pour 74 = .ok (.iload 4, 2) := by decide +kernel
theorem dX11_pour_76 : decode cX11_pour 76 = .ok (.iaload, 1) := by decide +kernel
theorem dX11_pour_77 : decode cX11_pour 77 = .ok (.goto 5, 3) := by decide +kernel
theorem dX11_pour_80 : decode cX11_pour 80 = .ok (.ldc 74, 2) := by decide +kernel
theorem dX11_pour_82 : decode cX11_pour 82 = .ok (.istore 5, 2) := by decide +kernel
theorem dX11_pour_84 : decode cX11_pour 84 = .ok (.aload_n 0, 1) := by decide +kernel
theorem dX11_pour_85 : decode cX11_pour 85 = .ok (.getfield 10, 3) := by decide +kernel
theorem dX11_pour_88 : decode cX11_pour 88 = .ok (.getfield 117, 3) := by decide +kernel
theorem dX11_pour_91 : decode cX11_pour 91 = .ok (.iload 4, 2) := by decide +kernel
theorem dX11_pour_93 : decode cX11_pour 93 = .ok (.iaload, 1) := by decide +kernel
theorem dX11_pour_94 : decode cX11_pour 94 = .ok (.iload 5, 2) := by decide +kernel
theorem dX11_pour_96 : decode cX11_pour 96 = .ok (.if_icmp .eq 18, 3) := by decide +kernel
theorem dX11_pour_99 : decode cX11_pour 99 = .ok (.aload_n 0, 1) := by decide +kernel
theorem dX11_pour_100 : decode cX11_pour 100 = .ok (.getfield 10, 3) := by decide +kernel
theorem dX11_pour_103 : decode cX11_pour 103 = .ok (.getfield 117, 3) := by decide +kernel
theorem dX11_pour_106 : decode cX11_pour 106 = .ok (.iload 4, 2) := by decide +kernel
theorem dX11_pour_108 : decode cX11_pour 108 = .ok (.iload 5, 2) := by decide +kernel
theorem dX11_pour_110 : decode cX11_pour 110 = .ok (.iastore, 1) := by decide +kernel
theorem dX11_pour_111 : decode cX11_pour 111 = .ok (.iinc 3 1, 3) := by decide +kernel
theorem dX11_pour_114 : decode cX11_pour 114 = .ok (.iinc 4 1, 3) := by decide +kernel
theorem dX11_pour_117 : decode cX11_pour 117 = .ok (.goto (-87), 3) := by decide +kernel
theorem dX11_pour_120 : decode cX11_pour 120 = .ok (.iload_n 3, 1) := by decide +kernel
theorem dX11_pour_121 : decode cX11_pour 121 = .ok (.ireturn, 1) := by decide +kernel
theorem dX11_reads_0 : decode cX11_reads 0 = .ok (.aload_n 0, 1) := by decide +kernel
theorem dX11_reads_1 : decode cX11_reads 1 = .ok (.iload_n 1, 1) := by decide +kernel
theorem dX11_reads_2 : decode cX11_reads 2 = .ok (.invokevirtual 253, 3) := by decide +kernel
theorem dX11_reads_5 : decode cX11_reads 5 = .ok (.astore_n 2, 1) := by decide +kernel
theorem dX11_reads_6 : decode cX11_reads 6 = .ok (.aload_n 2, 1) := by decide +kernel
theorem dX11_reads_7 : decode cX11_reads 7 = .ok (.ifnonnull 6, 3) := by decide +kernel
theorem dX11_reads_10 : decode cX11_reads 10 = .ok (.ldc 59, 2) := by decide +kernel
theorem dX11_reads_12 : decode cX11_reads 12 = .ok (.ireturn, 1) := by decide +kernel
theorem dX11_reads_13 : decode cX11_reads 13 = .ok (.aload_n 2, 1) := by decide +kernel
theorem dX11_reads_14 : decode cX11_reads 14 = .ok (.getfield 257, 3) := by decide +kernel
theorem dX11_reads_17 : decode cX11_reads 17 = .ok (.iconst (-1), 1) := by decide +kernel
theorem dX11_reads_18 : decode cX11_reads 18 = .ok (.if_icmp .ne 7, 3) := by decide +kernel
theorem dX11_reads_21 : decode cX11_reads 21 = .ok (.ldc_w 271, 3) := by decide +kernel
theorem dX11_reads_24 : decode cX11_reads 24 = .ok (.ireturn, 1) := by decide +kernel
theorem dX11_reads_25 : decode cX11_reads 25 = .ok (.iconst 0, 1) := by decide +kernel
theorem dX11_reads_26 : decode cX11_reads 26 = .ok (.istore_n 3, 1) := by decide +kernel
theorem dX11_reads_27 : decode cX11_reads 27 = .ok (.iload_n 3, 1) := by decide +kernel
theorem dX11_reads_28 : decode cX11_reads 28 = .ok (.aload_n 2, 1) := by decide +kernel
theorem dX11_reads_29 : decode cX11_reads 29 = .ok (.getfield 260, 3) := by decide +kernel
theorem dX11_reads_32 : decode cX11_reads 32 = .ok (.if_icmp .ge 52, 3) := by decide +kernel
theorem dX11_reads_35 : decode cX11_reads 35 = .ok (.aload_n 2, 1) := by decide +kernel
theorem dX11_reads_36 : decode cX11_reads 36 = .ok (.getfield 262, 3) := by decide +kernel
theorem dX11_reads_39 : decode cX11_reads 39 = .ok (.iload_n 3, 1) := by decide +kernel
theorem dX11_reads_40 : decode cX11_reads 40 = .ok (.iaload, 1) := by decide +kernel
theorem dX11_reads_41 : decode cX11_reads 41 = .ok (.istore 4, 2) := by decide +kernel
theorem dX11_reads_43 : decode cX11_reads 43 = .ok (.iload 4, 2) := by decide +kernel
theorem dX11_reads_45 : decode cX11_reads 45 = .ok (.ldc 74, 2) := by decide +kernel
theorem dX11_reads_47 : decode cX11_reads 47 = .ok (.if_icmp .eq 31, 3) := by decide +kernel
theorem dX11_reads_50 : decode cX11_reads 50 = .ok (.aload_n 0, 1) := by decide +kernel
theorem dX11_reads_51 : decode cX11_reads 51 = .ok (.getfield 10, 3) := by decide +kernel
theorem dX11_reads_54 : decode cX11_reads 54 = .ok (.iload_n 3, 1) := by decide +kernel
theorem dX11_reads_55 : decode cX11_reads 55 = .ok (.invokevirtual 64, 3) := by decide +kernel
theorem dX11_reads_58 : decode cX11_reads 58 = .ok (.ifCond .eq 18, 3) := by decide +kernel
theorem dX11_reads_61 : decode cX11_reads 61 = .ok (.iload 4, 2) := by decide +kernel
theorem dX11_reads_63 : decode cX11_reads 63 = .ok (.aload_n 0, 1) := by decide +kernel
theorem dX11_reads_64 : decode cX11_reads 64 = .ok (.getfield 10, 3) := by decide +kernel
theorem dX11_reads_67 : decode cX11_reads 67 = .ok (.iload_n 3, 1) := by decide +kernel
theorem dX11_reads_68 : decode cX11_reads 68 = .ok (.ldc 74, 2) := by decide +kernel
theorem dX11_reads_70 : decode cX11_reads 70 = .ok (.invokevirtual 75, 3) := by decide +kernel
theorem dX11_reads_73 : decode cX11_reads 73 = .ok (.if_icmp .eq 5, 3) := by decide +kernel
theorem dX11_reads_76 : decode cX11_reads 76 = .ok (.iload_n 3, 1) := by decide +kernel
theorem dX11_reads_77 : decode cX11_reads 77 = .ok (.ireturn, 1) := by decide +kernel
theorem dX11_reads_78 : decode cX11_reads 78 = .ok (.iinc 3 1, 3) := by decide +kernel
theorem dX11_reads_81 : decode cX11_reads 81 = .ok (.goto (-54), 3) := by decide +kernel
theorem dX11_reads_84 : decode cX11_reads 84 = .ok (.ldc 74, 2) := by decide +kernel
theorem dX11_reads_86 : decode cX11_reads 86 = .ok (.ireturn, 1) := by decide +kernel
theorem dX11_copy_0 : decode cX11_copy 0 = .ok (.aload_n 0, 1) := by decide +kernel
theorem dX11_copy_1 : decode cX11_copy 1 = .ok (.iload_n 1, 1) := by decide +kernel
theorem dX11_copy_2 : decode cX11_copy 2 = .ok (.invokevirtual 253, 3) := by decide +kernel
theorem dX11_copy_5 : decode cX11_copy 5 = .ok (.astore 6, 2) := by decide +kernel
theorem dX11_copy_7 : decode cX11_copy 7 = .ok (.aload_n 0, 1) := by decide +kernel
theorem dX11_copy_8 : decode cX11_copy 8 = .ok (.iload_n 3, 1) := by decide +kernel
theorem dX11_copy_9 : decode cX11_copy 9 = .ok (.invokevirtual 253, 3) := by decide +kernel
theorem dX11_copy_12 : decode cX11_copy 12 = .ok (.astore 7, 2) := by decide +kernel
theorem dX11_copy_14 : decode cX11_copy 14 = .ok (.aload 6, 2) := by decide +kernel
theorem dX11_copy_16 : decode cX11_copy 16 = .ok (.ifnull 8, 3) := by decide +kernel
theorem dX11_copy_19 : decode cX11_copy 19 = .ok (.aload 7, 2) := by decide +kernel
theorem dX11_copy_21 : decode cX11_copy 21 = .ok (.ifnonnull 6, 3) := by decide +kernel
theorem dX11_copy_24 : decode cX11_copy 24 = .ok (.ldc 59, 2) := by decide +kernel
theorem dX11_copy_26 : decode cX11_copy 26 = .ok (.ireturn, 1) := by decide +kernel
theorem dX11_copy_27 : decode cX11_copy 27 = .ok (.aload 6, 2) := by decide +kernel
theorem dX11_copy_29 : decode cX11_copy 29 = .ok (.getfield 257, 3) := by decide +kernel
theorem dX11_copy_32 : decode cX11_copy 32 = .ok (.iconst (-1), 1) := by decide +kernel
theorem dX11_copy_33 : decode cX11_copy 33 = .ok (.if_icmp .eq 12, 3) := by decide +kernel
theorem dX11_copy_36 : decode cX11_copy 36 = .ok (.aload 7, 2) := by decide +kernel
theorem dX11_copy_38 : decode cX11_copy 38 = .ok (.getfield 257, 3) := by decide +kernel
theorem dX11_copy_41 : decode cX11_copy 41 = .ok (.iconst (-1), 1) := by decide +kernel
theorem dX11_copy_42 : decode cX11_copy 42 = .ok (.if_icmp .ne 7, 3) := by decide +kernel
theorem dX11_copy_45 : decode cX11_copy 45 = .ok (.ldc_w 271, 3) := by decide +kernel
theorem dX11_copy_48 : decode cX11_copy 48 = .ok (.ireturn, 1) := by decide +kernel
theorem dX11_copy_49 : decode cX11_copy 49 = .ok (.aload 6, 2) := by decide +kernel
theorem dX11_copy_51 : decode cX11_copy 51 = .ok (.getfield 257, 3) := by decide +kernel
theorem dX11_copy_54 : decode cX11_copy 54 = .ok (.aload 7, 2) := by decide +kernel
theorem dX11_copy_56 : decode cX11_copy 56 = .ok (.getfield 257, 3) := by decide +kernel
theorem dX11_copy_59 : decode cX11_copy 59 = .ok (.if_icmp .eq 6, 3) := by decide +kernel
theorem dX11_copy_62 : decode cX11_copy 62 = .ok (.ldc 156, 2) := by decide +kernel
theorem dX11_copy_64 : decode cX11_copy 64 = .ok (.ireturn, 1) := by decide +kernel
theorem dX11_copy_65 : decode cX11_copy 65 = .ok (.aload 6, 2) := by decide +kernel
theorem dX11_copy_67 : decode cX11_copy 67 = .ok (.iload_n 2, 1) := by decide +kernel
theorem dX11_copy_68 : decode cX11_copy 68 = .ok (.iload 5, 2) := by decide +kernel
theorem dX11_copy_70 : decode cX11_copy 70 = .ok (.invokevirtual 278, 3) := by decide +kernel
theorem dX11_copy_73 : decode cX11_copy 73 = .ok (.ifCond .eq 15, 3) := by decide +kernel
theorem dX11_copy_76 : decode cX11_copy 76 = .ok (.aload 7, 2) := by decide +kernel
theorem dX11_copy_78 : decode cX11_copy 78 = .ok (.iload 4, 2) := by decide +kernel
theorem dX11_copy_80 : decode cX11_copy 80 = .ok (.iload 5, 2) := by decide +kernel
theorem dX11_copy_82 : decode cX11_copy 82 = .ok (.invokevirtual 278, 3) := by decide +kernel
theorem dX11_copy_85 : decode cX11_copy 85 = .ok (.ifCond .ne 7, 3) := by decide +kernel
theorem dX11_copy_88 : decode cX11_copy 88 = .ok (.ldc_w 275, 3) := by decide +kernel
theorem dX11_copy_91 : decode cX11_copy 91 = .ok (.ireturn, 1) := by decide +kernel
theorem dX11_copy_92 : decode cX11_copy 92 = .ok (.aload 6, 2) := by decide +kernel
theorem dX11_copy_94 : decode cX11_copy 94 = .ok (.getfield 262, 3) := by decide +kernel
theorem dX11_copy_97 : decode cX11_copy 97 = .ok (.iload_n 2, 1) := by decide +kernel
theorem dX11_copy_98 : decode cX11_copy 98 = .ok (.aload 7, 2) := by decide +kernel
theorem dX11_copy_100 : decode cX11_copy 100 = .ok (.getfield 262, 3) := by decide +kernel
theorem dX11_copy_103 : decode cX11_copy 103 = .ok (.iload 4, 2) := by decide +kernel
theorem dX11_copy_105 : decode cX11_copy 105 = .ok (.iload 5, 2) := by decide +kernel
theorem dX11_copy_107 : decode cX11_copy 107 = .ok (.invokestatic 281, 3) := by decide +kernel
theorem dX11_copy_110 : decode cX11_copy 110 = .ok (.iload 5, 2) := by decide +kernel
theorem dX11_copy_112 : decode cX11_copy 112 = .ok (.ireturn, 1) := by decide +kernel
theorem dX11_lay_0 : decode cX11_lay 0 = .ok (.aload_n 0, 1) := by decide +kernel
theorem dX11_lay_1 : decode cX11_lay 1 = .ok (.iload_n 1, 1) := by decide +kernel
theorem dX11_lay_2 : decode cX11_lay 2 = .ok (.invokevirtual 287, 3) := by decide +kernel
theorem dX11_lay_5 : decode cX11_lay 5 = .ok (.astore 4, 2) := by decide +kernel
theorem dX11_lay_7 : decode cX11_lay 7 = .ok (.aload 4, 2) := by decide +kernel
theorem dX11_lay_9 : decode cX11_lay 9 = .ok (.ifnull 12, 3) := by decide +kernel
theorem dX11_lay_12 : decode cX11_lay 12 = .ok (.iload_n 2, 1) := by decide +kernel
theorem dX11_lay_13 : decode cX11_lay 13 = .ok (.iconst 0, 1) := by decide +kernel
theorem dX11_lay_14 : decode cX11_lay 14 = .ok (.iconst 3, 1) := by decide +kernel
theorem dX11_lay_15 : decode cX11_lay 15 = .ok (.invokestatic 55, 3) := by decide +kernel
theorem dX11_lay_18 : decode cX11_lay 18 = .ok (.ifCond .ne 6, 3) := by decide +kernel
theorem dX11_lay_21 : decode cX11_lay 21 = .ok (.ldc 59, 2) := by decide +kernel
theorem dX11_lay_23 : decode cX11_lay 23 = .ok (.ireturn, 1) := by decide +kernel
theorem dX11_lay_24 : decode cX11_lay 24 = .ok (.iload_n 2, 1) := by decide +kernel
theorem dX11_lay_25 : decode cX11_lay 25 = .ok (.iconst 1, 1) := by decide +kernel
theorem dX11_lay_26 : decode cX11_lay 26 = .ok (.if_icmp .ne 14, 3) := by decide +kernel
theorem dX11_lay_29 : decode cX11_lay 29 = .ok (.aload_n 0, 1) := by decide +kernel
theorem dX11_lay_30 : decode cX11_lay 30 = .ok (.getfield 10, 3) := by decide +kernel
theorem dX11_lay_33 : decode cX11_lay 33 = .ok (.iload_n 3, 1) := by decide +kernel
theorem dX11_lay_34 : decode cX11_lay 34 = .ok (.invokevirtual 140, 3) := by decide +kernel
theorem dX11_lay_37 : decode cX11_lay 37 = .ok (.goto 4, 3) := by decide +kernel
theorem dX11_lay_40 : decode cX11_lay 40 = .ok (.aconst_null, 1) := by decide +kernel
theorem dX11_lay_41 : decode cX11_lay 41 = .ok (.astore 5, 2) := by decide +kernel
theorem dX11_lay_43 : decode cX11_lay 43 = .ok (.iload_n 2, 1) := by decide +kernel
theorem dX11_lay_44 : decode cX11_lay 44 = .ok (.iconst 2, 1) := by decide +kernel
theorem dX11_lay_45 : decode cX11_lay 45 = .ok (.if_icmp .ne 11, 3) := by decide +kernel
theorem dX11_lay_48 : decode cX11_lay 48 = .ok (.aload_n 0, 1) := by decide +kernel
theorem dX11_lay_49 : decode cX11_lay 49 = .ok (.iload_n 3, 1) := by decide +kernel
theorem dX11_lay_50 : decode cX11_lay 50 = .ok (.invokevirtual 253, 3) := by decide +kernel
theorem dX11_lay_53 : decode cX11_lay 53 = .ok (.goto 4, 3) := by decide +kernel
theorem dX11_lay_56 : decode cX11_lay 56 = .ok (.aconst_null, 1) := by decide +kernel
theorem dX11_lay_57 : decode cX11_lay 57 = .ok (.astore 6, 2) := by decide +kernel
theorem dX11_lay_59 : decode cX11_lay 59 = .ok (.iload_n 2, 1) := by decide +kernel
theorem dX11_lay_60 : decode cX11_lay 60 = .ok (.iconst 1, 1) := by decide +kernel
theorem dX11_lay_61 : decode cX11_lay 61 = .ok (.if_icmp .ne 8, 3) := by decide +kernel
theorem dX11_lay_64 : decode cX11_lay 64 = .ok (.aload 5, 2) := by decide +kernel
theorem dX11_lay_66 : decode cX11_lay 66 = .ok (.ifnull 13, 3) := by decide +kernel
theorem dX11_lay_69 : decode cX11_lay 69 = .ok (.iload_n 2, 1) := by decide +kernel
theorem dX11_lay_70 : decode cX11_lay 70 = .ok (.iconst 2, 1) := by decide +kernel
theorem dX11_lay_71 : decode cX11_lay 71 = .ok (.if_icmp .ne 11, 3) := by decide +kernel
theorem dX11_lay_74 : decode cX11_lay 74 = .ok (.aload 6, 2) := by decide +kernel
theorem dX11_lay_76 : decode cX11_lay 76 = .ok (.ifnonnull 6, 3) := by decide +kernel
theorem dX11_lay_79 : decode cX11_lay 79 = .ok (.ldc 59, 2) := by decide +kernel
theorem dX11_lay_81 : decode cX11_lay 81 = .ok (.ireturn, 1) := by decide +kernel
theorem dX11_lay_82 : decode cX11_lay 82 = .ok (.aload 6, 2) := by decide +kernel
theorem dX11_lay_84 : decode cX11_lay 84 = .ok (.ifnull 16, 3) := by decide +kernel
theorem dX11_lay_87 : decode cX11_lay 87 = .ok (.aload 6, 2) := by decide +kernel
theorem dX11_lay_89 : decode cX11_lay 89 = .ok (.getfield 257, 3) := by decide +kernel
theorem dX11_lay_92 : decode cX11_lay 92 = .ok (.iconst (-1), 1) := by decide +kernel
theorem dX11_lay_93 : decode cX11_lay 93 = .ok (.if_icmp .ne 7, 3) := by decide +kernel
theorem dX11_lay_96 : decode cX11_lay 96 = .ok (.ldc_w 271, 3) := by decide +kernel
theorem dX11_lay_99 : decode cX11_lay 99 = .ok (.ireturn, 1) := by decide +kernel
theorem dX11_lay_100 : decode cX11_lay 100 = .ok (.aload 4, 2) := by decide +kernel
theorem dX11_lay_102 : decode cX11_lay 102 = .ok (.getfield 291, 3) := by decide +kernel
theorem dX11_lay_105 : decode cX11_lay 105 = .ok (.istore 7, 2) := by decide +kernel
theorem dX11_lay_107 : decode cX11_lay 107 = .ok (.aload 4, 2) := by decide +kernel
theorem dX11_lay_109 : decode cX11_lay 109 = .ok (.iload_n 2, 1) := by decide +kernel
theorem dX11_lay_110 : decode cX11_lay 110 = .ok (.putfield 291, 3) := by decide +kernel
theorem dX11_lay_113 : decode cX11_lay 113 = .ok (.aload 4, 2) := by decide +kernel
theorem dX11_lay_115 : decode cX11_lay 115 = .ok (.aload 5, 2) := by decide +kernel
theorem dX11_lay_117 : decode cX11_lay 117 = .ok (.putfield 294, 3) := by decide +kernel
theorem dX11_lay_120 : decode cX11_lay 120 = .ok (.aload 4, 2) := by decide +kernel
theorem dX11_lay_122 : decode cX11_lay 122 = .ok (.iload_n 3, 1) := by decide +kernel
theorem dX11_lay_123 : decode cX11_lay 123 = .ok (.putfield 298, 3) := by decide +kernel
theorem dX11_lay_126 : decode cX11_lay 126 = .ok (.aload 6, 2) := by decide +kernel
theorem dX11_lay_128 : decode cX11_lay 128 = .ok (.ifnull 13, 3) := by decide +kernel
theorem dX11_lay_131 : decode cX11_lay 131 = .ok (.aload 4, 2) := by decide +kernel
theorem dX11_lay_133 : decode cX11_lay 133 = .ok (.getfield 301, 3) := by decide +kernel
theorem dX11_lay_136 : decode cX11_lay 136 = .ok (.aload 6, 2) := by decide +kernel
theorem dX11_lay_138 : decode cX11_lay 138 = .ok (.invokevirtual 305, 3) := by decide +kernel
theorem dX11_lay_141 : decode cX11_lay 141 = .ok (.iload 7, 2) := by decide +kernel
theorem dX11_lay_143 : decode cX11_lay 143 = .ok (.ireturn, 1) := by decide +kernel
theorem dX11_ask_0 : decode cX11_ask 0 = .ok (.aload_n 0, 1) := by decide +kernel
theorem dX11_ask_1 : decode cX11_ask 1 = .ok (.iload_n 1, 1) := by decide +kernel
theorem dX11_ask_2 : decode cX11_ask 2 = .ok (.invokevirtual 287, 3) := by decide +kernel
theorem dX11_ask_5 : decode cX11_ask 5 = .ok (.astore_n 3, 1) := by decide +kernel
theorem dX11_ask_6 : decode cX11_ask 6 = .ok (.aload_n 3, 1) := by decide +kernel
theorem dX11_ask_7 : decode cX11_ask 7 = .ok (.ifnull 10, 3) := by decide +kernel
theorem dX11_ask_10 : decode cX11_ask 10 = .ok (.iload_n 2, 1) := by decide +kernel
theorem dX11_ask_11 : decode cX11_ask 11 = .ok (.invokestatic 123, 3) := by decide +kernel
theorem dX11_ask_14 : decode cX11_ask 14 = .ok (.ifCond .ne 6, 3) := by decide +kernel
theorem dX11_ask_17 : decode cX11_ask 17 = .ok (.ldc 59, 2) := by decide +kernel
theorem dX11_ask_19 : decode cX11_ask 19 = .ok (.ireturn, 1) := by decide +kernel
theorem dX11_ask_20 : decode cX11_ask 20 = .ok (.aload_n 3, 1) := by decide +kernel
theorem dX11_ask_21 : decode cX11_ask 21 = .ok (.getfield 291, 3) := by decide +kernel
theorem dX11_ask_24 : decode cX11_ask 24 = .ok (.ifCond .ne 7, 3) := by decide +kernel
theorem dX11_ask_27 : decode cX11_ask 27 = .ok (.ldc_w 271, 3) := by decide +kernel
theorem dX11_ask_30 : decode cX11_ask 30 = .ok (.ireturn, 1) := by decide +kernel
theorem dX11_ask_31 : decode cX11_ask 31 = .ok (.aload_n 3, 1) := by decide +kernel
theorem dX11_ask_32 : decode cX11_ask 32 = .ok (.getfield 294, 3) := by decide +kernel
theorem dX11_ask_35 : decode cX11_ask 35 = .ok (.astore 4, 2) := by decide +kernel
theorem dX11_ask_37 : decode cX11_ask 37 = .ok (.aload 4, 2) := by decide +kernel
theorem dX11_ask_39 : decode cX11_ask 39 = .ok (.ifnull 20, 3) := by decide +kernel
theorem dX11_ask_42 : decode cX11_ask 42 = .ok (.aload 4, 2) := by decide +kernel
theorem dX11_ask_44 : decode cX11_ask 44 = .ok (.iload_n 2, 1) := by decide +kernel
theorem dX11_ask_45 : decode cX11_ask 45 = .ok (.invokevirtual 153, 3) := by decide +kernel
theorem dX11_ask_48 : decode cX11_ask 48 = .ok (.ifCond .eq 11, 3) := by decide +kernel
theorem dX11_ask_51 : decode cX11_ask 51 = .ok (.aload 4, 2) := by decide +kernel
theorem dX11_ask_53 : decode cX11_ask 53 = .ok (.invokevirtual 150, 3) := by decide +kernel
theorem dX11_ask_56 : decode cX11_ask 56 = .ok (.goto 5, 3) := by decide +kernel
theorem dX11_ask_59 : decode cX11_ask 59 = .ok (.ldc 156, 2) := by decide +kernel
theorem dX11_ask_61 : decode cX11_ask 61 = .ok (.ireturn, 1) := by decide +kernel
theorem dX11_item_0 : decode cX11_item 0 = .ok (.aload_n 0, 1) := by decide +kernel
theorem dX11_item_1 : decode cX11_item 1 = .ok (.iload_n 1, 1) := by decide +kernel
theorem dX11_item_2 : decode cX11_item 2 = .ok (.invokevirtual 287, 3) := by decide +kernel
theorem dX11_item_5 : decode cX11_item 5 = .ok (.astore_n 3, 1) := by decide +kernel
theorem dX11_item_6 : decode cX11_item 6 = .ok (.aload_n 3, 1) := by decide +kernel
theorem dX11_item_7 : decode cX11_item 7 = .ok (.ifnonnull 6, 3) := by decide +kernel
theorem dX11_item_10 : decode cX11_item 10 = .ok (.ldc 59, 2) := by decide +kernel
theorem dX11_item_12 : decode cX11_item 12 = .ok (.ireturn, 1) := by decide +kernel
theorem dX11_item_13 : decode cX11_item 13 = .ok (.aload_n 3, 1) := by decide +kernel
theorem dX11_item_14 : decode cX11_item 14 = .ok (.getfield 291, 3) := by decide +kernel
theorem dX11_item_17 : decode cX11_item 17 = .ok (.ifCond .ne 7, 3) := by decide +kernel
theorem dX11_item_20 : decode cX11_item 20 = .ok (.ldc_w 271, 3) := by decide +kernel
theorem dX11_item_23 : decode cX11_item 23 = .ok (.ireturn, 1) := by decide +kernel
theorem dX11_item_24 : decode cX11_item 24 = .ok (.aload_n 3, 1) := by decide +kernel
theorem dX11_item_25 : decode cX11_item 25 = .ok (.getfield 291, 3) := by decide +kernel
theorem dX11_item_28 : decode cX11_item 28 = .ok (.iconst 2, 1) := by decide +kernel
theorem dX11_item_29 : decode cX11_item 29 = .ok (.if_icmp .eq 6, 3) := by decide +kernel
theorem dX11_item_32 : decode cX11_item 32 = .ok (.ldc 156, 2) := by decide +kernel
theorem dX11_item_34 : decode cX11_item 34 = .ok (.ireturn, 1) := by decide +kernel
theorem dX11_item_35 : decode cX11_item 35 = .ok (.aload_n 3, 1) := by decide +kernel
theorem dX11_item_36 : decode cX11_item 36 = .ok (.getfield 301, 3) := by decide +kernel
theorem dX11_item_39 : decode cX11_item 39 = .ok (.iload_n 2, 1) := by decide +kernel
theorem dX11_item_40 : decode cX11_item 40 = .ok (.invokevirtual 272, 3) := by decide +kernel
theorem dX11_item_43 : decode cX11_item 43 = .ok (.ifCond .ne 7, 3) := by decide +kernel
theorem dX11_item_46 : decode cX11_item 46 = .ok (.ldc_w 275, 3) := by decide +kernel
theorem dX11_item_49 : decode cX11_item 49 = .ok (.ireturn, 1) := by decide +kernel
theorem dX11_item_50 : decode cX11_item 50 = .ok (.aload_n 3, 1) := by decide +kernel
theorem dX11_item_51 : decode cX11_item 51 = .ok (.getfield 301, 3) := by decide +kernel
theorem dX11_item_54 : decode cX11_item 54 = .ok (.getfield 262, 3) := by decide +kernel
theorem dX11_item_57 : decode cX11_item 57 = .ok (.iload_n 2, 1) := by decide +kernel
theorem dX11_item_58 : decode cX11_item 58 = .ok (.iaload, 1) := by decide +kernel
theorem dX11_item_59 : decode cX11_item 59 = .ok (.istore 4, 2) := by decide +kernel
theorem dX11_item_61 : decode cX11_item 61 = .ok (.iload 4, 2) := by decide +kernel
theorem dX11_item_63 : decode cX11_item 63 = .ok (.ldc 74, 2) := by decide +kernel
theorem dX11_item_65 : decode cX11_item 65 = .ok (.if_icmp .ne 8, 3) := by decide +kernel
theorem dX11_item_68 : decode cX11_item 68 = .ok (.ldc 156, 2) := by decide +kernel
theorem dX11_item_70 : decode cX11_item 70 = .ok (.goto 5, 3) := by decide +kernel
theorem dX11_item_73 : decode cX11_item 73 = .ok (.iload 4, 2) := by decide +kernel
theorem dX11_item_75 : decode cX11_item 75 = .ok (.ireturn, 1) := by decide +kernel
theorem dX11_rest_0 : decode cX11_rest 0 = .ok (.aload_n 0, 1) := by decide +kernel
theorem dX11_rest_1 : decode cX11_rest 1 = .ok (.iload_n 1, 1) := by decide +kernel
theorem dX11_rest_2 : decode cX11_rest 2 = .ok (.invokevirtual 287, 3) := by decide +kernel
theorem dX11_rest_5 : decode cX11_rest 5 = .ok (.astore_n 3, 1) := by decide +kernel
theorem dX11_rest_6 : decode cX11_rest 6 = .ok (.aload_n 3, 1) := by decide +kernel
theorem dX11_rest_7 : decode cX11_rest 7 = .ok (.ifnonnull 6, 3) := by decide +kernel
theorem dX11_rest_10 : decode cX11_rest 10 = .ok (.ldc 59, 2) := by decide +kernel
theorem dX11_rest_12 : decode cX11_rest 12 = .ok (.ireturn, 1) := by decide +kernel
theorem dX11_rest_13 : decode cX11_rest 13 = .ok (.aload_n 3, 1) := by decide +kernel
theorem dX11_rest_14 : decode cX11_rest 14 = .ok (.getfield 291, 3) := by decide +kernel
theorem dX11_rest_17 : decode cX11_rest 17 = .ok (.ifCond .ne 7, 3) := by decide +kernel
theorem dX11_rest_20 : decode cX11_rest 20 = .ok (.ldc_w 271, 3) := by decide +kernel
theorem dX11_rest_23 : decode cX11_rest 23 = .ok (.ireturn, 1) := by decide +kernel
theorem dX11_rest_24 : decode cX11_rest 24 = .ok (.aload_n 3, 1) := by decide +kernel
theorem dX11_rest_25 : decode cX11_rest 25 = .ok (.getfield 291, 3) := by decide +kernel
theorem dX11_rest_28 : decode cX11_rest 28 = .ok (.iconst 3, 1) := by decide +kernel
theorem dX11_rest_29 : decode cX11_rest 29 = .ok (.if_icmp .eq 6, 3) := by decide +kernel
theorem dX11_rest_32 : decode cX11_rest 32 = .ok (.ldc 156, 2) := by decide +kernel
theorem dX11_rest_34 : decode cX11_rest 34 = .ok (.ireturn, 1) := by decide +kernel
theorem dX11_rest_35 : decode cX11_rest 35 = .ok (.iload_n 2, 1) := by decide +kernel
theorem dX11_rest_36 : decode cX11_rest 36 = .ok (.ifCond .ne 9, 3) := by decide +kernel
theorem dX11_rest_39 : decode cX11_rest 39 = .ok (.ldc_w 309, 3) := by decide +kernel
theorem dX11_rest_42 : decode cX11_rest 42 = .ok (.goto 9, 3) := by decide +kernel
theorem dX11_rest_45 : decode cX11_rest 45 = .ok (.aload_n 3, 1) := by decide +kernel
theorem dX11_rest_46 : decode cX11_rest 46 = .ok (.getfield 298, 3) := by decide +kernel
theorem dX11_rest_49 : decode cX11_rest 49 = .ok (.iload_n 2, 1) := by decide +kernel
theorem dX11_rest_50 : decode cX11_rest 50 = .ok (.irem, 1) := by decide +kernel
theorem dX11_rest_51 : decode cX11_rest 51 = .ok (.ireturn, 1) := by decide +kernel
theorem dX11_tell_0 : decode cX11_tell 0 = .ok (.aload_n 0, 1) := by decide +kernel
theorem dX11_tell_1 : decode cX11_tell 1 = .ok (.getfield 34, 3) := by decide +kernel
theorem dX11_tell_4 : decode cX11_tell 4 = .ok (.bipush 60, 2) := by decide +kernel
theorem dX11_tell_6 : decode cX11_tell 6 = .ok (.if_icmp .lt 6, 3) := by decide +kernel
theorem dX11_tell_9 : decode cX11_tell 9 = .ok (.ldc 129, 2) := by decide +kernel
theorem dX11_tell_11 : decode cX11_tell 11 = .ok (.ireturn, 1) := by decide +kernel
theorem dX11_tell_12 : decode cX11_tell 12 = .ok (.aload_n 0, 1) := by decide +kernel
theorem dX11_tell_13 : decode cX11_tell 13 = .ok (.getfield 30, 3) := by decide +kernel
theorem dX11_tell_16 : decode cX11_tell 16 = .ok (.aload_n 0, 1) := by decide +kernel
theorem dX11_tell_17 : decode cX11_tell 17 = .ok (.getfield 34, 3) := by decide +kernel
theorem dX11_tell_20 : decode cX11_tell 20 = .ok (.iload_n 1, 1) := by decide +kernel
theorem dX11_tell_21 : decode cX11_tell 21 = .ok (.iastore, 1) := by decide +kernel
theorem dX11_tell_22 : decode cX11_tell 22 = .ok (.aload_n 0, 1) := by decide +kernel
theorem dX11_tell_23 : decode cX11_tell 23 = .ok (.dup, 1) := by decide +kernel
theorem dX11_tell_24 : decode cX11_tell 24 = .ok (.getfield 34, 3) := by decide +kernel
theorem dX11_tell_27 : decode cX11_tell 27 = .ok (.iconst 1, 1) := by decide +kernel
theorem dX11_tell_28 : decode cX11_tell 28 = .ok (.iadd, 1) := by decide +kernel
theorem dX11_tell_29 : decode cX11_tell 29 = .ok (.putfield 34, 3) := by decide +kernel
theorem dX11_tell_32 : decode cX11_tell 32 = .ok (.aload_n 0, 1) := by decide +kernel
theorem dX11_tell_33 : decode cX11_tell 33 = .ok (.getfield 34, 3) := by decide +kernel
theorem dX11_tell_36 : decode cX11_tell 36 = .ok (.ireturn, 1) := by decide +kernel
theorem dX11_check_0 : decode cX11_check 0 = .ok (.aload_n 0, 1) := by decide +kernel
theorem dX11_check_1 : decode cX11_check 1 = .ok (.getfield 34, 3) := by decide +kernel
theorem dX11_check_4 : decode cX11_check 4 = .ok (.istore_n 2, 1) := by decide +kernel
theorem dX11_check_5 : decode cX11_check 5 = .ok (.aload_n 0, 1) := by decide +kernel
theorem dX11_check_6 : decode cX11_check 6 = .ok (.iconst 0, 1) := by decide +kernel
theorem dX11_check_7 : decode cX11_check 7 = .ok (.putfield 34, 3) := by decide +kernel
theorem dX11_check_10 : decode cX11_check 10 = .ok (.iload_n 1, 1) := by decide +kernel
theorem dX11_check_11 : decode cX11_check 11 = .ok (.iconst 1, 1) := by decide +kernel
theorem dX11_check_12 : decode cX11_check 12 = .ok (.bipush 30, 2) := by decide +kernel
theorem dX11_check_14 : decode cX11_check 14 = .ok (.invokestatic 55, 3) := by decide +kernel
theorem dX11_check_17 : decode cX11_check 17 = .ok (.ifCond .ne 6, 3) := by decide +kernel
theorem dX11_check_20 : decode cX11_check 20 = .ok (.ldc 59, 2) := by decide +kernel
theorem dX11_check_22 : decode cX11_check 22 = .ok (.ireturn, 1) := by decide +kernel
theorem dX11_check_23 : decode cX11_check 23 = .ok (.aload_n 0, 1) := by decide +kernel
theorem dX11_check_24 : decode cX11_check 24 = .ok (.getfield 19, 3) := by decide +kernel
theorem dX11_check_27 : decode cX11_check 27 = .ok (.ifCond .ne 7, 3) := by decide +kernel
theorem dX11_check_30 : decode cX11_check 30 = .ok (.ldc_w 309, 3) := by decide +kernel
theorem dX11_check_33 : decode cX11_check 33 = .ok (.ireturn, 1) := by decide +kernel
theorem dX11_check_34 : decode cX11_check 34 = .ok (.aload_n 0, 1) := by decide +kernel
theorem dX11_check_35 : decode cX11_check 35 = .ok (.iload_n 1, 1) := by decide +kernel
theorem dX11_check_36 : decode cX11_check 36 = .ok (.iload_n 2, 1) := by decide +kernel
theorem dX11_check_37 : decode cX11_check 37 = .ok (.invokevirtual 310, 3) := by decide +kernel
theorem dX11_check_40 : decode cX11_check 40 = .ok (.istore_n 3, 1) := by decide +kernel
theorem dX11_check_41 : decode cX11_check 41 = .ok (.iload_n 3, 1) := by decide +kernel
theorem dX11_check_42 : decode cX11_check 42 = .ok (.iconst 2, 1) := by decide +kernel
theorem dX11_check_43 : decode cX11_check 43 = .ok (.iload_n 1, 1) := by decide +kernel
theorem dX11_check_44 : decode cX11_check 44 = .ok (.imul, 1) := by decide +kernel
theorem dX11_check_45 : decode cX11_check 45 = .ok (.if_icmp .ne 14, 3) := by decide +kernel
theorem dX11_check_48 : decode cX11_check 48 = .ok (.iload_n 2, 1) := by decide +kernel
theorem dX11_check_49 : decode cX11_check 49 = .ok (.iconst 2, 1) := by decide +kernel
theorem dX11_check_50 : decode cX11_check 50 = .ok (.iload_n 1, 1) := by decide +kernel
theorem dX11_check_51 : decode cX11_check 51 = .ok (.imul, 1) := by decide +kernel
theorem dX11_check_52 : decode cX11_check 52 = .ok (.if_icmp .ne 7, 3) := by decide +kernel
theorem dX11_check_55 : decode cX11_check 55 = .ok (.iconst 0, 1) := by decide +kernel
theorem dX11_check_56 : decode cX11_check 56 = .ok (.goto 6, 3) := by decide +kernel
theorem dX11_check_59 : decode cX11_check 59 = .ok (.iconst 1, 1) := by decide +kernel
theorem dX11_check_60 : decode cX11_check 60 = .ok (.iload_n 3, 1) := by decide +kernel
theorem dX11_check_61 : decode cX11_check 61 = .ok (.iadd, 1) := by decide +kernel
theorem dX11_check_62 : decode cX11_check 62 = .ok (.ireturn, 1) := by decide +kernel
theorem dX11_keep_0 : decode cX11_keep 0 = .ok (.aload_n 0, 1) := by decide +kernel
theorem dX11_keep_1 : decode cX11_keep 1 = .ok (.getfield 16, 3) := by decide +kernel
theorem dX11_keep_4 : decode cX11_keep 4 = .ok (.aload_n 0, 1) := by decide +kernel
theorem dX11_keep_5 : decode cX11_keep 5 = .ok (.getfield 10, 3) := by decide +kernel
theorem dX11_keep_8 : decode cX11_keep 8 = .ok (.invokevirtual 313, 3) := by decide +kernel
theorem dX11_keep_11 : decode cX11_keep 11 = .ok (.aload_n 0, 1) := by decide +kernel
theorem dX11_keep_12 : decode cX11_keep 12 = .ok (.iconst 1, 1) := by decide +kernel
theorem dX11_keep_13 : decode cX11_keep 13 = .ok (.putfield 19, 3) := by decide +kernel
theorem dX11_keep_16 : decode cX11_keep 16 = .ok (.aload_n 0, 1) := by decide +kernel
theorem dX11_keep_17 : decode cX11_keep 17 = .ok (.getfield 10, 3) := by decide +kernel
theorem dX11_keep_20 : decode cX11_keep 20 = .ok (.getfield 190, 3) := by decide +kernel
theorem dX11_keep_23 : decode cX11_keep 23 = .ok (.ireturn, 1) := by decide +kernel
theorem dX11_back_0 : decode cX11_back 0 = .ok (.aload_n 0, 1) := by decide +kernel
theorem dX11_back_1 : decode cX11_back 1 = .ok (.getfield 19, 3) := by decide +kernel
theorem dX11_back_4 : decode cX11_back 4 = .ok (.ifCond .ne 7, 3) := by decide +kernel
theorem dX11_back_7 : decode cX11_back 7 = .ok (.ldc_w 309, 3) := by decide +kernel
theorem dX11_back_10 : decode cX11_back 10 = .ok (.ireturn, 1) := by decide +kernel
theorem dX11_back_11 : decode cX11_back 11 = .ok (.aload_n 0, 1) := by decide +kernel
theorem dX11_back_12 : decode cX11_back 12 = .ok (.getfield 10, 3) := by decide +kernel
theorem dX11_back_15 : decode cX11_back 15 = .ok (.aload_n 0, 1) := by decide +kernel
theorem dX11_back_16 : decode cX11_back 16 = .ok (.getfield 16, 3) := by decide +kernel
theorem dX11_back_19 : decode cX11_back 19 = .ok (.invokevirtual 313, 3) := by decide +kernel
theorem dX11_back_22 : decode cX11_back 22 = .ok (.aload_n 0, 1) := by decide +kernel
theorem dX11_back_23 : decode cX11_back 23 = .ok (.getfield 10, 3) := by decide +kernel
theorem dX11_back_26 : decode cX11_back 26 = .ok (.getfield 190, 3) := by decide +kernel
theorem dX11_back_29 : decode cX11_back 29 = .ok (.ireturn, 1) := by decide +kernel
theorem dX11_count_0 : decode cX11_count 0 = .ok (.iload_n 1, 1) := by decide +kernel
theorem dX11_count_1 : decode cX11_count 1 = .ok (.tableswitch 132 0 9 #[55, 63, 71, 79, 87, 95, 103, 111, 116, 124], 55) := by decide +kernel
theorem dX11_count_56 : decode cX11_count 56 = .ok (.aload_n 0, 1) := by decide +kernel
theorem dX11_count_57 : decode cX11_count 57 = .ok (.getfield 10, 3) := by decide +kernel
theorem dX11_count_60 : decode cX11_count 60 = .ok (.getfield 95, 3) := by decide +kernel
theorem dX11_count_63 : decode cX11_count 63 = .ok (.ireturn, 1) := by decide +kernel
theorem dX11_count_64 : decode cX11_count 64 = .ok (.aload_n 0, 1) := by decide +kernel
theorem dX11_count_65 : decode cX11_count 65 = .ok (.getfield 10, 3) := by decide +kernel
theorem dX11_count_68 : decode cX11_count 68 = .ok (.getfield 190, 3) := by decide +kernel
theorem dX11_count_71 : decode cX11_count 71 = .ok (.ireturn, 1) := by decide +kernel
theorem dX11_count_72 : decode cX11_count 72 = .ok (.aload_n 0, 1) := by decide +kernel
theorem dX11_count_73 : decode cX11_count 73 = .ok (.getfield 10, 3) := by decide +kernel
theorem dX11_count_76 : decode cX11_count 76 = .ok (.getfield 126, 3) := by decide +kernel
theorem dX11_count_79 : decode cX11_count 79 = .ok (.ireturn, 1) := by decide +kernel
theorem dX11_count_80 : decode cX11_count 80 = .ok (.aload_n 0, 1) := by decide +kernel
theorem dX11_count_81 : decode cX11_count 81 = .ok (.getfield 10, 3) := by decide +kernel
theorem dX11_count_84 : decode cX11_count 84 = .ok (.getfield 181, 3) := by decide +kernel
theorem dX11_count_87 : decode cX11_count 87 = .ok (.ireturn, 1) := by decide +kernel
theorem dX11_count_88 : decode cX11_count 88 = .ok (.aload_n 0, 1) := by decide +kernel
theorem dX11_count_89 : decode cX11_count 89 = .ok (.getfield 10, 3) := by decide +kernel
theorem dX11_count_92 : decode cX11_count 92 = .ok (.getfield 316, 3) := by decide +kernel
theorem dX11_count_95 : decode cX11_count 95 = .ok (.ireturn, 1) := by decide +kernel
theorem dX11_count_96 : decode cX11_count 96 = .ok (.aload_n 0, 1) := by decide +kernel
theorem dX11_count_97 : decode cX11_count 97 = .ok (.getfield 10, 3) := by decide +kernel
theorem dX11_count_100 : decode cX11_count 100 = .ok (.getfield 92, 3) := by decide +kernel
theorem dX11_count_103 : decode cX11_count 103 = .ok (.ireturn, 1) := by decide +kernel
theorem dX11_count_104 : decode cX11_count 104 = .ok (.aload_n 0, 1) := by decide +kernel
theorem dX11_count_105 : decode cX11_count 105 = .ok (.getfield 10, 3) := by decide +kernel
theorem dX11_count_108 : decode cX11_count 108 = .ok (.getfield 227, 3) := by decide +kernel
theorem dX11_count_111 : decode cX11_count 111 = .ok (.ireturn, 1) := by decide +kernel
theorem dX11_count_112 : decode cX11_count 112 = .ok (.aload_n 0, 1) := by decide +kernel
theorem dX11_count_113 : decode cX11_count 113 = .ok (.getfield 34, 3) := by decide +kernel
theorem dX11_count_116 : decode cX11_count 116 = .ok (.ireturn, 1) := by decide +kernel
theorem dX11_count_117 : decode cX11_count 117 = .ok (.aload_n 0, 1) := by decide +kernel
theorem dX11_count_118 : decode cX11_count 118 = .ok (.getfield 26, 3) := by decide +kernel
theorem dX11_count_121 : decode cX11_count 121 = .ok (.getfield 217, 3) := by decide +kernel
theorem dX11_count_124 : decode cX11_count 124 = .ok (.ireturn, 1) := by decide +kernel
theorem dX11_count_125 : decode cX11_count 125 = .ok (.aload_n 0, 1) := by decide +kernel
theorem dX11_count_126 : decode cX11_count 126 = .ok (.getfield 10, 3) := by decide +kernel
theorem dX11_count_129 : decode cX11_count 129 = .ok (.getfield 184, 3) := by decide +kernel
theorem dX11_count_132 : decode cX11_count 132 = .ok (.ireturn, 1) := by decide +kernel
theorem dX11_count_133 : decode cX11_count 133 = .ok (.ldc 59, 2) := by decide +kernel
theorem dX11_count_135 : decode cX11_count 135 = .ok (.ireturn, 1) := by decide +kernel
theorem dX11_within_0 : decode cX11_within 0 = .ok (.iload_n 0, 1) := by decide +kernel
theorem dX11_within_1 : decode cX11_within 1 = .ok (.iload_n 1, 1) := by decide +kernel
theorem dX11_within_2 : decode cX11_within 2 = .ok (.if_icmp .lt 12, 3) := by decide +kernel
theorem dX11_within_5 : decode cX11_within 5 = .ok (.iload_n 0, 1) := by decide +kernel
theorem dX11_within_6 : decode cX11_within 6 = .ok (.iload_n 2, 1) := by decide +kernel
theorem dX11_within_7 : decode cX11_within 7 = .ok (.if_icmp .gt 7, 3) := by decide +kernel
theorem dX11_within_10 : decode cX11_within 10 = .ok (.iconst 1, 1) := by decide +kernel
theorem dX11_within_11 : decode cX11_within 11 = .ok (.goto 4, 3) := by decide +kernel
theorem dX11_within_14 : decode cX11_within 14 = .ok (.iconst 0, 1) := by decide +kernel
theorem dX11_within_15 : decode cX11_within 15 = .ok (.ireturn, 1) := by decide +kernel
theorem dX11_held_0 : decode cX11_held 0 = .ok (.iload_n 1, 1) := by decide +kernel
theorem dX11_held_1 : decode cX11_held 1 = .ok (.iload_n 2, 1) := by decide +kernel
theorem dX11_held_2 : decode cX11_held 2 = .ok (.iload_n 0, 1) := by decide +kernel
theorem dX11_held_3 : decode cX11_held 3 = .ok (.invokestatic 319, 3) := by decide +kernel
theorem dX11_held_6 : decode cX11_held 6 = .ok (.invokestatic 324, 3) := by decide +kernel
theorem dX11_held_9 : decode cX11_held 9 = .ok (.ireturn, 1) := by decide +kernel
theorem dX11_isKind_0 : decode cX11_isKind 0 = .ok (.iload_n 0, 1) := by decide +kernel
theorem dX11_isKind_1 : decode cX11_isKind 1 = .ok (.iconst 0, 1) := by decide +kernel
theorem dX11_isKind_2 : decode cX11_isKind 2 = .ok (.iconst 5, 1) := by decide +kernel
theorem dX11_isKind_3 : decode cX11_isKind 3 = .ok (.invokestatic 55, 3) := by decide +kernel
theorem dX11_isKind_6 : decode cX11_isKind 6 = .ok (.ireturn, 1) := by decide +kernel
theorem dX11_sheetAt_0 : decode cX11_sheetAt 0 = .ok (.iload_n 1, 1) := by decide +kernel
theorem dX11_sheetAt_1 : decode cX11_sheetAt 1 = .ok (.iconst 0, 1) := by decide +kernel
theorem dX11_sheetAt_2 : decode cX11_sheetAt 2 = .ok (.iconst 3, 1) := by decide +kernel
theorem dX11_sheetAt_3 : decode cX11_sheetAt 3 = .ok (.invokestatic 55, 3) := by decide +kernel
theorem dX11_sheetAt_6 : decode cX11_sheetAt 6 = .ok (.ifCond .eq 12, 3) := by decide +kernel
theorem dX11_sheetAt_9 : decode cX11_sheetAt 9 = .ok (.aload_n 0, 1) := by decide +kernel
theorem dX11_sheetAt_10 : decode cX11_sheetAt 10 = .ok (.getfield 40, 3) := by decide +kernel
theorem dX11_sheetAt_13 : decode cX11_sheetAt 13 = .ok (.iload_n 1, 1) := by decide +kernel
theorem dX11_sheetAt_14 : decode cX11_sheetAt 14 = .ok (.aaload, 1) := by decide +kernel
theorem dX11_sheetAt_15 : decode cX11_sheetAt 15 = .ok (.goto 4, 3) := by decide +kernel
theorem dX11_sheetAt_18 : decode cX11_sheetAt 18 = .ok (.aconst_null, 1) := by decide +kernel
theorem dX11_sheetAt_19 : decode cX11_sheetAt 19 = .ok (.areturn, 1) := by decide +kernel
theorem dX11_slotAt_0 : decode cX11_slotAt 0 = .ok (.iload_n 1, 1) := by decide +kernel
theorem dX11_slotAt_1 : decode cX11_slotAt 1 = .ok (.iconst 0, 1) := by decide +kernel
theorem dX11_slotAt_2 : decode cX11_slotAt 2 = .ok (.iconst 4, 1) := by decide +kernel
theorem dX11_slotAt_3 : decode cX11_slotAt 3 = .ok (.invokestatic 55, 3) := by decide +kernel
theorem dX11_slotAt_6 : decode cX11_slotAt 6 = .ok (.ifCond .eq 12, 3) := by decide +kernel
theorem dX11_slotAt_9 : decode cX11_slotAt 9 = .ok (.aload_n 0, 1) := by decide +kernel
theorem dX11_slotAt_10 : decode cX11_slotAt 10 = .ok (.getfield 46, 3) := by decide +kernel
theorem dX11_slotAt_13 : decode cX11_slotAt 13 = .ok (.iload_n 1, 1) := by decide +kernel
theorem dX11_slotAt_14 : decode cX11_slotAt 14 = .ok (.aaload, 1) := by decide +kernel
theorem dX11_slotAt_15 : decode cX11_slotAt 15 = .ok (.goto 4, 3) := by decide +kernel
theorem dX11_slotAt_18 : decode cX11_slotAt 18 = .ok (.aconst_null, 1) := by decide +kernel
theorem dX11_slotAt_19 : decode cX11_slotAt 19 = .ok (.areturn, 1) := by decide +kernel
theorem dX11_hearsAllRung_0 : decode cX11_hearsAllRung 0 = .ok (.iconst 0, 1) := by decide +kernel
theorem dX11_hearsAllRung_1 : decode cX11_hearsAllRung 1 = .ok (.istore_n 2, 1) := by decide +kernel
theorem dX11_hearsAllRung_2 : decode cX11_hearsAllRung 2 = .ok (.iload_n 2, 1) := by decide +kernel
theorem dX11_hearsAllRung_3 : decode cX11_hearsAllRung 3 = .ok (.aload_n 0, 1) := by decide +kernel
theorem dX11_hearsAllRung_4 : decode cX11_hearsAllRung 4 = .ok (.getfield 10, 3) := by decide +kernel
theorem dX11_hearsAllRung_7 : decode cX11_hearsAllRung 7 = .ok (.getfield 190, 3) := by decide +kernel
theorem dX11_hearsAllRung_10 : decode cX11_hearsAllRung 10 = .ok (.if_icmp .ge 31, 3) := by decide +kernel
theorem dX11_hearsAllRung_13 : decode cX11_hearsAllRung 13 = .ok (.aload_n 0, 1) := by decide +kernel
theorem dX11_hearsAllRung_14 : decode cX11_hearsAllRung 14 = .ok (.getfield 50, 3) := by decide +kernel
theorem dX11_hearsAllRung_17 : decode cX11_hearsAllRung 17 = .ok (.iload_n 2, 1) := by decide +kernel
theorem dX11_hearsAllRung_18 : decode cX11_hearsAllRung 18 = .ok (.iaload, 1) := by decide +kernel
theorem dX11_hearsAllRung_19 : decode cX11_hearsAllRung 19 = .ok (.ifCond .eq 16, 3) := by decide +kernel
theorem dX11_hearsAllRung_22 : decode cX11_hearsAllRung 22 = .ok (.aload_n 0, 1) := by decide +kernel
theorem dX11_hearsAllRung_23 : decode cX11_hearsAllRung 23 = .ok (.getfield 50, 3) := by decide +kernel
theorem dX11_hearsAllRung_26 : decode cX11_hearsAllRung 26 = .ok (.iload_n 2, 1) := by decide +kernel
theorem dX11_hearsAllRung_27 : decode cX11_hearsAllRung 27 = .ok (.iaload, 1) := by decide +kernel
theorem dX11_hearsAllRung_28 : decode cX11_hearsAllRung 28 = .ok (.iload_n 1, 1) := by decide +kernel
theorem dX11_hearsAllRung_29 : decode cX11_hearsAllRung 29 = .ok (.iand, 1) := by decide +kernel
theorem dX11_hearsAllRung_30 : decode cX11_hearsAllRung 30 = .ok (.ifCond .ne 5, 3) := by decide +kernel
theorem dX11_hearsAllRung_33 : decode cX11_hearsAllRung 33 = .ok (.iconst 0, 1) := by decide +kernel
theorem dX11_hearsAllRung_34 : decode cX11_hearsAllRung 34 = .ok (.ireturn, 1) := by decide +kernel
theorem dX11_hearsAllRung_35 : decode cX11_hearsAllRung 35 = .ok (.iinc 2 1, 3) := by decide +kernel
theorem dX11_hearsAllRung_38 : decode cX11_hearsAllRung 38 = .ok (.goto (-36), 3) := by decide +kernel
theorem dX11_hearsAllRung_41 : decode cX11_hearsAllRung 41 = .ok (.iconst 1, 1) := by decide +kernel
theorem dX11_hearsAllRung_42 : decode cX11_hearsAllRung 42 = .ok (.ireturn, 1) := by decide +kernel
theorem dX11_howManyRight_0 : decode cX11_howManyRight 0 = .ok (.aload_n 0, 1) := by decide +kernel
theorem dX11_howManyRight_1 : decode cX11_howManyRight 1 = .ok (.getfield 16, 3) := by decide +kernel
theorem dX11_howManyRight_4 : decode cX11_howManyRight 4 = .ok (.getfield 184, 3) := by decide +kernel
theorem dX11_howManyRight_7 : decode cX11_howManyRight 7 = .ok (.istore_n 3, 1) := by decide +kernel
theorem dX11_howManyRight_8 : decode cX11_howManyRight 8 = .ok (.aload_n 0, 1) := by decide +kernel
theorem dX11_howManyRight_9 : decode cX11_howManyRight 9 = .ok (.getfield 16, 3) := by decide +kernel
theorem dX11_howManyRight_12 : decode cX11_howManyRight 12 = .ok (.getfield 181, 3) := by decide +kernel
theorem dX11_howManyRight_15 : decode cX11_howManyRight 15 = .ok (.istore 4, 2) := by decide +kernel
theorem dX11_howManyRight_17 : decode cX11_howManyRight 17 = .ok (.aload_n 0, 1) := by decide +kernel
theorem dX11_howManyRight_18 : decode cX11_howManyRight 18 = .ok (.getfield 16, 3) := by decide +kernel
theorem dX11_howManyRight_21 : decode cX11_howManyRight 21 = .ok (.getfield 316, 3) := by decide +kernel
theorem dX11_howManyRight_24 : decode cX11_howManyRight 24 = .ok (.istore 5, 2) := by decide +kernel
theorem dX11_howManyRight_26 : decode cX11_howManyRight 26 = .ok (.iconst 0, 1) := by decide +kernel
theorem dX11_howManyRight_27 : decode cX11_howManyRight 27 = .ok (.istore 6, 2) := by decide +kernel
theorem dX11_howManyRight_29 : decode cX11_howManyRight 29 = .ok (.aload_n 0, 1) := by decide +kernel
theorem dX11_howManyRight_30 : decode cX11_howManyRight 30 = .ok (.getfield 16, 3) := by decide +kernel
theorem dX11_howManyRight_33 : decode cX11_howManyRight 33 = .ok (.invokevirtual 171, 3) := by decide +kernel
theorem dX11_howManyRight_36 : decode cX11_howManyRight 36 = .ok (.iconst 0, 1) := by decide +kernel
theorem dX11_howManyRight_37 : decode cX11_howManyRight 37 = .ok (.istore 7, 2) := by decide +kernel
theorem dX11_howManyRight_39 : decode cX11_howManyRight 39 = .ok (.iload 7, 2) := by decide +kernel
theorem dX11_howManyRight_41 : decode cX11_howManyRight 41 = .ok (.iload_n 1, 1) := by decide +kernel
theorem dX11_howManyRight_42 : decode cX11_howManyRight 42 = .ok (.if_icmp .ge 88, 3) := by decide +kernel
theorem dX11_howManyRight_45 : decode cX11_howManyRight 45 = .ok (.iload 6, 2) := by decide +kernel
theorem dX11_howManyRight_47 : decode cX11_howManyRight 47 = .ok (.iconst 2, 1) := by decide +kernel
theorem dX11_howManyRight_48 : decode cX11_howManyRight 48 = .ok (.iload 7, 2) := by decide +kernel
theorem dX11_howManyRight_50 : decode cX11_howManyRight 50 = .ok (.imul, 1) := by decide +kernel
theorem dX11_howManyRight_51 : decode cX11_howManyRight 51 = .ok (.if_icmp .ne 79, 3) := by decide +kernel
theorem dX11_howManyRight_54 : decode cX11_howManyRight 54 = .ok (.aload_n 0, 1) := by decide +kernel
theorem dX11_howManyRight_55 : decode cX11_howManyRight 55 = .ok (.getfield 16, 3) := by decide +kernel
theorem dX11_howManyRight_58 : decode cX11_howManyRight 58 = .ok (.invokevirtual 178, 3) := by decide +kernel
theorem dX11_howManyRight_61 : decode cX11_howManyRight 61 = .ok (.iload 6, 2) := by decide +kernel
theorem dX11_howManyRight_63 : decode cX11_howManyRight 63 = .ok (.aload_n 0, 1) := by decide +kernel
theorem dX11_howManyRight_64 : decode cX11_howManyRight 64 = .ok (.iload 6, 2) := by decide +kernel
theorem dX11_howManyRight_66 : decode cX11_howManyRight 66 = .ok (.iload_n 2, 1) := by decide +kernel
theorem dX11_howManyRight_67 : decode cX11_howManyRight 67 = .ok (.aload_n 0, 1) := by decide +kernel
theorem dX11_howManyRight_68 : decode cX11_howManyRight 68 = .ok (.getfield 16, 3) := by decide +kernel
theorem dX11_howManyRight_71 : decode cX11_howManyRight 71 = .ok (.getfield 181, 3) := by decide +kernel
theorem dX11_howManyRight_74 : decode cX11_howManyRight 74 = .ok (.invokevirtual 327, 3) := by decide +kernel
theorem dX11_howManyRight_77 : decode cX11_howManyRight 77 = .ok (.ifCond .eq 7, 3) := by decide +kernel
theorem dX11_howManyRight_80 : decode cX11_howManyRight 80 = .ok (.iconst 1, 1) := by decide +kernel
theorem dX11_howManyRight_81 : decode cX11_howManyRight 81 = .ok (.goto 4, 3) := by decide +kernel
theorem dX11_howManyRight_84 : decode cX11_howManyRight 84 = .ok (.iconst 0, 1) := by decide +kernel
theorem dX11_howManyRight_85 : decode cX11_howManyRight 85 = .ok (.iadd, 1) := by decide +kernel
theorem dX11_howManyRight_86 : decode cX11_howManyRight 86 = .ok (.istore 6, 2) := by decide +kernel
theorem dX11_howManyRight_88 : decode cX11_howManyRight 88 = .ok (.iload 6, 2) := by decide +kernel
theorem dX11_howManyRight_90 : decode cX11_howManyRight 90 = .ok (.iload 6, 2) := by decide +kernel
theorem dX11_howManyRight_92 : decode cX11_howManyRight 92 = .ok (.iconst 2, 1) := by decide +kernel
theorem dX11_howManyRight_93 : decode cX11_howManyRight 93 = .ok (.iload 7, 2) := by decide +kernel
theorem dX11_howManyRight_95 : decode cX11_howManyRight 95 = .ok (.imul, 1) := by decide +kernel
theorem dX11_howManyRight_96 : decode cX11_howManyRight 96 = .ok (.if_icmp .le 24, 3) := by decide +kernel
theorem dX11_howManyRight_99 : decode cX11_howManyRight 99 = .ok (.aload_n 0, 1) := by decide +kernel
theorem dX11_howManyRight_100 : decode cX11_howManyRight 100 = .ok (.iload 6, 2) := by decide +kernel
theorem dX11_howManyRight_102 : decode cX11_howManyRight 102 = .ok (.iload_n 2, 1) := by decide +kernel
theorem dX11_howManyRight_103 : decode cX11_howManyRight 103 = .ok (.aload_n 0, 1) := by decide +kernel
theorem dX11_howManyRight_104 : decode cX11_howManyRight 104 = .ok (.getfield 16, 3) := by decide +kernel
theorem dX11_howManyRight_107 : decode cX11_howManyRight 107 = .ok (.getfield 316, 3) := by decide +kernel
theorem dX11_howManyRight_110 : decode cX11_howManyRight 110 = .ok (.invokevirtual 327, 3) := by decide +kernel
theorem dX11_howManyRight_113 : decode cX11_howManyRight 113 = .ok (.ifCond .eq 7, 3) := by decide +kernel
theorem dX11_howManyRight_116 : decode cX11_howManyRight 116 = .ok (.iconst 1, 1) := by decide +kernel
theorem dX11_howManyRight_117 : decode cX11_howManyRight 117 = .ok (.goto 4, 3) := by decide +kernel
theorem dX11_howManyRight_120 : decode cX11_howManyRight 120 = .ok (.iconst 0, 1) := by decide +kernel
theorem dX11_howManyRight_121 : decode cX11_howManyRight 121 = .ok (.iadd, 1) := by decide +kernel
theorem dX11_howManyRight_122 : decode cX11_howManyRight 122 = .ok (.istore 6, 2) := by decide +kernel
theorem dX11_howManyRight_124 : decode cX11_howManyRight 124 = .ok (.iinc 7 1, 3) := by decide +kernel
theorem dX11_howManyRight_127 : decode cX11_howManyRight 127 = .ok (.goto (-88), 3) := by decide +kernel
theorem dX11_howManyRight_130 : decode cX11_howManyRight 130 = .ok (.aload_n 0, 1) := by decide +kernel
theorem dX11_howManyRight_131 : decode cX11_howManyRight 131 = .ok (.getfield 16, 3) := by decide +kernel
theorem dX11_howManyRight_134 : decode cX11_howManyRight 134 = .ok (.iload_n 3, 1) := by decide +kernel
theorem dX11_howManyRight_135 : decode cX11_howManyRight 135 = .ok (.putfield 184, 3) := by decide +kernel
theorem dX11_howManyRight_138 : decode cX11_howManyRight 138 = .ok (.aload_n 0, 1) := by decide +kernel
theorem dX11_howManyRight_139 : decode cX11_howManyRight 139 = .ok (.getfield 16, 3) := by decide +kernel
theorem dX11_howManyRight_142 : decode cX11_howManyRight 142 = .ok (.iload 4, 2) := by decide +kernel
theorem dX11_howManyRight_144 : decode cX11_howManyRight 144 = .ok (.putfield 181, 3) := by decide +kernel
theorem dX11_howManyRight_147 : decode cX11_howManyRight 147 = .ok (.aload_n 0, 1) := by decide +kernel
theorem dX11_howManyRight_148 : decode cX11_howManyRight 148 = .ok (.getfield 16, 3) := by decide +kernel
theorem dX11_howManyRight_151 : decode cX11_howManyRight 151 = .ok (.iload 5, 2) := by decide +kernel
theorem dX11_howManyRight_153 : decode cX11_howManyRight 153 = .ok (.putfield 316, 3) := by decide +kernel
theorem dX11_howManyRight_156 : decode cX11_howManyRight 156 = .ok (.iload 6, 2) := by decide +kernel
theorem dX11_howManyRight_158 : decode cX11_howManyRight 158 = .ok (.ireturn, 1) := by decide +kernel
theorem dX11_waitsAt_0 : decode cX11_waitsAt 0 = .ok (.iload_n 1, 1) := by decide +kernel
theorem dX11_waitsAt_1 : decode cX11_waitsAt 1 = .ok (.iload_n 2, 1) := by decide +kernel
theorem dX11_waitsAt_2 : decode cX11_waitsAt 2 = .ok (.if_icmp .ge 23, 3) := by decide +kernel
theorem dX11_waitsAt_5 : decode cX11_waitsAt 5 = .ok (.iload_n 1, 1) := by decide +kernel
theorem dX11_waitsAt_6 : decode cX11_waitsAt 6 = .ok (.bipush 60, 2) := by decide +kernel
theorem dX11_waitsAt_8 : decode cX11_waitsAt 8 = .ok (.if_icmp .ge 17, 3) := by decide +kernel
theorem dX11_waitsAt_11 : decode cX11_waitsAt 11 = .ok (.aload_n 0, 1) := by decide +kernel
theorem dX11_waitsAt_12 : decode cX11_waitsAt 12 = .ok (.getfield 30, 3) := by decide +kernel
theorem dX11_waitsAt_15 : decode cX11_waitsAt 15 = .ok (.iload_n 1, 1) := by decide +kernel
theorem dX11_waitsAt_16 : decode cX11_waitsAt 16 = .ok (.iaload, 1) := by decide +kernel
theorem dX11_waitsAt_17 : decode cX11_waitsAt 17 = .ok (.iload_n 3, 1) := by decide +kernel
theorem dX11_waitsAt_18 : decode cX11_waitsAt 18 = .ok (.if_icmp .ne 7, 3) := by decide +kernel
theorem dX11_waitsAt_21 : decode cX11_waitsAt 21 = .ok (.iconst 1, 1) := by decide +kernel
theorem dX11_waitsAt_22 : decode cX11_waitsAt 22 = .ok (.goto 4, 3) := by decide +kernel
theorem dX11_waitsAt_25 : decode cX11_waitsAt 25 = .ok (.iconst 0, 1) := by decide +kernel
theorem dX11_waitsAt_26 : decode cX11_waitsAt 26 = .ok (.ireturn, 1) := by decide +kernel
theorem dX12_init_0 : decode cX12_init 0 = .ok (.aload_n 0, 1) := by decide +kernel
theorem dX12_init_1 : decode cX12_init 1 = .ok (.invokespecial 1, 3) := by decide +kernel
theorem dX12_init_4 : decode cX12_init 4 = .ok (.aload_n 0, 1) := by decide +kernel
theorem dX12_init_5 : decode cX12_init 5 = .ok (.sipush 1482, 3) := by decide +kernel
theorem dX12_init_8 : decode cX12_init 8 = .ok (.newarray .int, 2) := by decide +kernel
theorem dX12_init_10 : decode cX12_init 10 = .ok (.putfield 9, 3) := by decide +kernel
theorem dX12_init_13 : decode cX12_init 13 = .ok (.aload_n 0, 1) := by decide +kernel
theorem dX12_init_14 : decode cX12_init 14 = .ok (.sipush 1482, 3) := by decide +kernel
theorem dX12_init_17 : decode cX12_init 17 = .ok (.newarray .int, 2) := by decide +kernel
theorem dX12_init_19 : decode cX12_init 19 = .ok (.putfield 13, 3) := by decide +kernel
theorem dX12_init_22 : decode cX12_init 22 = .ok (.aload_n 0, 1) := by decide +kernel
theorem dX12_init_23 : decode cX12_init 23 = .ok (.sipush 1482, 3) := by decide +kernel
theorem dX12_init_26 : decode cX12_init 26 = .ok (.newarray .int, 2) := by decide +kernel
theorem dX12_init_28 : decode cX12_init 28 = .ok (.putfield 16, 3) := by decide +kernel
theorem dX12_init_31 : decode cX12_init 31 = .ok (.aload_n 0, 1) := by decide +kernel
theorem dX12_init_32 : decode cX12_init 32 = .ok (.bipush 96, 2) := by decide +kernel
theorem dX12_init_34 : decode cX12_init 34 = .ok (.newarray .int, 2) := by decide +kernel
theorem dX12_init_36 : decode cX12_init 36 = .ok (.putfield 19, 3) := by decide +kernel
theorem dX12_init_39 : decode cX12_init 39 = .ok (.aload_n 0, 1) := by decide +kernel
theorem dX12_init_40 : decode cX12_init 40 = .ok (.bipush 11, 2) := by decide +kernel
theorem dX12_init_42 : decode cX12_init 42 = .ok (.newarray .char, 2) := by decide +kernel
theorem dX12_init_44 : decode cX12_init 44 = .ok (.dup, 1) := by decide +kernel
theorem dX12_init_45 : decode cX12_init 45 = .ok (.iconst 0, 1) := by decide +kernel
theorem dX12_init_46 : decode cX12_init 46 = .ok (.bipush 99, 2) := by decide +kernel
theorem dX12_init_48 : decode cX12_init 48 = .ok (.castore, 1) := by decide +kernel
theorem dX12_init_49 : decode cX12_init 49 = .ok (.dup, 1) := by decide +kernel
theorem dX12_init_50 : decode cX12_init 50 = .ok (.iconst 1, 1) := by decide +kernel
theorem dX12_init_51 : decode cX12_init 51 = .ok (.bipush 111, 2) := by decide +kernel
theorem dX12_init_53 : decode cX12_init 53 = .ok (.castore, 1) := by decide +kernel
theorem dX12_init_54 : decode cX12_init 54 = .ok (.dup, 1) := by decide +kernel
theorem dX12_init_55 : decode cX12_init 55 = .ok (.iconst 2, 1) := by decide +kernel
theorem dX12_init_56 : decode cX12_init 56 = .ok (.bipush 109, 2) := by decide +kernel
theorem dX12_init_58 : decode cX12_init 58 = .ok (.castore, 1) := by decide +kernel
theorem dX12_init_59 : decode cX12_init 59 = .ok (.dup, 1) := by decide +kernel
theorem dX12_init_60 : decode cX12_init 60 = .ok (.iconst 3, 1) := by decide +kernel
theorem dX12_init_61 : decode cX12_init 61 = .ok (.bipush 101, 2) := by decide +kernel
theorem dX12_init_63 : decode cX12_init 63 = .ok (.castore, 1) := by decide +kernel
theorem dX12_init_64 : decode cX12_init 64 = .ok (.dup, 1) := by decide +kernel
theorem dX12_init_65 : decode cX12_init 65 = .ok (.iconst 4, 1) := by decide +kernel
theorem dX12_init_66 : decode cX12_init 66 = .ok (.bipush 103, 2) := by decide +kernel
theorem dX12_init_68 : decode cX12_init 68 = .ok (.castore, 1) := by decide +kernel
theorem dX12_init_69 : decode cX12_init 69 = .ok (.dup, 1) := by decide +kernel
theorem dX12_init_70 : decode cX12_init 70 = .ok (.iconst 5, 1) := by decide +kernel
theorem dX12_init_71 : decode cX12_init 71 = .ok (.bipush 97, 2) := by decide +kernel
theorem dX12_init_73 : decode cX12_init 73 = .ok (.castore, 1) := by decide +kernel
theorem dX12_init_74 : decode cX12_init 74 = .ok (.dup, 1) := by decide +kernel
theorem dX12_init_75 : decode cX12_init 75 = .ok (.bipush 6, 2) := by decide +kernel
theorem dX12_init_77 : decode cX12_init 77 = .ok (.bipush 105, 2) := by decide +kernel
theorem dX12_init_79 : decode cX12_init 79 = .ok (.castore, 1) := by decide +kernel
theorem dX12_init_80 : decode cX12_init 80 = .ok (.dup, 1) := by decide +kernel
theorem dX12_init_81 : decode cX12_init 81 = .ok (.bipush 7, 2) := by decide +kernel
theorem dX12_init_83 : decode cX12_init 83 = .ok (.bipush 110, 2) := by decide +kernel
theorem dX12_init_85 : decode cX12_init 85 = .ok (.castore, 1) := by decide +kernel
theorem dX12_init_86 : decode cX12_init 86 = .ok (.dup, 1) := by decide +kernel
theorem dX12_init_87 : decode cX12_init 87 = .ok (.bipush 8, 2) := by decide +kernel
theorem dX12_init_89 : decode cX12_init 89 = .ok (.bipush 109, 2) := by decide +kernel
theorem dX12_init_91 : decode cX12_init 91 = .ok (.castore, 1) := by decide +kernel
theorem dX12_init_92 : decode cX12_init 92 = .ok (.dup, 1) := by decide +kernel
theorem dX12_init_93 : decode cX12_init 93 = .ok (.bipush 9, 2) := by decide +kernel
theorem dX12_init_95 : decode cX12_init 95 = .ok (.bipush 97, 2) := by decide +kernel
theorem dX12_init_97 : decode cX12_init 97 = .ok (.castore, 1) := by decide +kernel
theorem dX12_init_98 : decode cX12_init 98 = .ok (.dup, 1) := by decide +kernel
theorem dX12_init_99 : decode cX12_init 99 = .ok (.bipush 10, 2) := by decide +kernel
theorem dX12_init_101 : decode cX12_init 101 = .ok (.bipush 121, 2) := by decide +kernel
theorem dX12_init_103 : decode cX12_init 103 = .ok (.castore, 1) := by decide +kernel
theorem dX12_init_104 : decode cX12_init 104 = .ok (.putfield 22, 3) := by decide +kernel
theorem dX12_init_107 : decode cX12_init 107 = .ok (.aload_n 0, 1) := by decide +kernel
theorem dX12_init_108 : decode cX12_init 108 = .ok (.iconst 4, 1) := by decide +kernel
theorem dX12_init_109 : decode cX12_init 109 = .ok (.newarray .int, 2) := by decide +kernel
theorem dX12_init_111 : decode cX12_init 111 = .ok (.dup, 1) := by decide +kernel
theorem dX12_init_112 : decode cX12_init 112 = .ok (.iconst 0, 1) := by decide +kernel
theorem dX12_init_113 : decode cX12_init 113 = .ok (.iconst 0, 1) := by decide +kernel
theorem dX12_init_114 : decode cX12_init 114 = .ok (.iastore, 1) := by decide +kernel
theorem dX12_init_115 : decode cX12_init 115 = .ok (.dup, 1) := by decide +kernel
theorem dX12_init_116 : decode cX12_init 116 = .ok (.iconst 1, 1) := by decide +kernel
theorem dX12_init_117 : decode cX12_init 117 = .ok (.iconst 4, 1) := by decide +kernel
theorem dX12_init_118 : decode cX12_init 118 = .ok (.iastore, 1) := by decide +kernel
theorem dX12_init_119 : decode cX12_init 119 = .ok (.dup, 1) := by decide +kernel
theorem dX12_init_120 : decode cX12_init 120 = .ok (.iconst 2, 1) := by decide +kernel
theorem dX12_init_121 : decode cX12_init 121 = .ok (.bipush 8, 2) := by decide +kernel
theorem dX12_init_123 : decode cX12_init 123 = .ok (.iastore, 1) := by decide +kernel
theorem dX12_init_124 : decode cX12_init 124 = .ok (.dup, 1) := by decide +kernel
theorem dX12_init_125 : decode cX12_init 125 = .ok (.iconst 3, 1) := by decide +kernel
theorem dX12_init_126 : decode cX12_init 126 = .ok (.bipush 11, 2) := by decide +kernel
theorem dX12_init_128 : decode cX12_init 128 = .ok (.iastore, 1) := by decide +kernel
theorem dX12_init_129 : decode cX12_init 129 = .ok (.putfield 26, 3) := by decide +kernel
theorem dX12_init_132 : decode cX12_init 132 = .ok (.aload_n 0, 1) := by decide +kernel
theorem dX12_init_133 : decode cX12_init 133 = .ok (.bipush 96, 2) := by decide +kernel
theorem dX12_init_135 : decode cX12_init 135 = .ok (.newarray .int, 2) := by decide +kernel
theorem dX12_init_137 : decode cX12_init 137 = .ok (.putfield 29, 3) := by decide +kernel
theorem dX12_init_140 : decode cX12_init 140 = .ok (.aload_n 0, 1) := by decide +kernel
theorem dX12_init_141 : decode cX12_init 141 = .ok (.bipush 96, 2) := by decide +kernel
theorem dX12_init_143 : decode cX12_init 143 = .ok (.newarray .int, 2) := by decide +kernel
theorem dX12_init_145 : decode cX12_init 145 = .ok (.putfield 32, 3) := by decide +kernel
theorem dX12_init_148 : decode cX12_init 148 = .ok (.aload_n 0, 1) := by decide +kernel
theorem dX12_init_149 : decode cX12_init 149 = .ok (.bipush 10, 2) := by decide +kernel
theorem dX12_init_151 : decode cX12_init 151 = .ok (.newarray .boolean, 2) := by decide +kernel
theorem dX12_init_153 : decode cX12_init 153 = .ok (.putfield 35, 3) := by decide +kernel
theorem dX12_init_156 : decode cX12_init 156 = .ok (.aload_n 0, 1) := by decide +kernel
theorem dX12_init_157 : decode cX12_init 157 = .ok (.bipush 96, 2) := by decide +kernel
theorem dX12_init_159 : decode cX12_init 159 = .ok (.newarray .int, 2) := by decide +kernel
theorem dX12_init_161 : decode cX12_init 161 = .ok (.putfield 39, 3) := by decide +kernel
theorem dX12_init_164 : decode cX12_init 164 = .ok (.aload_n 0, 1) := by decide +kernel
theorem dX12_init_165 : decode cX12_init 165 = .ok (.iconst 4, 1) := by decide +kernel
theorem dX12_init_166 : decode cX12_init 166 = .ok (.newarray .int, 2) := by decide +kernel
theorem dX12_init_168 : decode cX12_init 168 = .ok (.putfield 42, 3) := by decide +kernel
theorem dX12_init_171 : decode cX12_init 171 = .ok (.aload_n 0, 1) := by decide +kernel
theorem dX12_init_172 : decode cX12_init 172 = .ok (.iconst 4, 1) := by decide +kernel
theorem dX12_init_173 : decode cX12_init 173 = .ok (.newarray .int, 2) := by decide +kernel
theorem dX12_init_175 : decode cX12_init 175 = .ok (.dup, 1) := by decide +kernel
theorem dX12_init_176 : decode cX12_init 176 = .ok (.iconst 0, 1) := by decide +kernel
theorem dX12_init_177 : decode cX12_init 177 = .ok (.iconst (-1), 1) := by decide +kernel
theorem dX12_init_178 : decode cX12_init 178 = .ok (.iastore, 1) := by decide +kernel
theorem dX12_init_179 : decode cX12_init 179 = .ok (.dup, 1) := by decide +kernel
theorem dX12_init_180 : decode cX12_init 180 = .ok (.iconst 1, 1) := by decide +kernel
theorem dX12_init_181 : decode cX12_init 181 = .ok (.iconst (-1), 1) := by decide +kernel
theorem dX12_init_182 : decode cX12_init 182 = .ok (.iastore, 1) := by decide +kernel
theorem dX12_init_183 : decode cX12_init 183 = .ok (.dup, 1) := by decide +kernel
theorem dX12_init_184 : decode cX12_init 184 = .ok (.iconst 2, 1) := by decide +kernel
theorem dX12_init_185 : decode cX12_init 185 = .ok (.iconst (-1), 1) := by decide +kernel
theorem dX12_init_186 : decode cX12_init 186 = .ok (.iastore, 1) := by decide +kernel
theorem dX12_init_187 : decode cX12_init 187 = .ok (.dup, 1) := by decide +kernel
theorem dX12_init_188 : decode cX12_init 188 = .ok (.iconst 3, 1) := by decide +kernel
theorem dX12_init_189 : decode cX12_init 189 = .ok (.iconst (-1), 1) := by decide +kernel
theorem dX12_init_190 : decode cX12_init 190 = .ok (.iastore, 1) := by decide +kernel
theorem dX12_init_191 : decode cX12_init 191 = .ok (.putfield 45, 3) := by decide +kernel
theorem dX12_init_194 : decode cX12_init 194 = .ok (.aload_n 0, 1) := by decide +kernel
theorem dX12_init_195 : decode cX12_init 195 = .ok (.iconst 4, 1) := by decide +kernel
theorem dX12_init_196 : decode cX12_init 196 = .ok (.newarray .int, 2) := by decide +kernel
theorem dX12_init_198 : decode cX12_init 198 = .ok (.putfield 48, 3) := by decide +kernel
theorem dX12_init_201 : decode cX12_init 201 = .ok (.aload_n 0, 1) := by decide +kernel
theorem dX12_init_202 : decode cX12_init 202 = .ok (.bipush 96, 2) := by decide +kernel
theorem dX12_init_204 : decode cX12_init 204 = .ok (.newarray .int, 2) := by decide +kernel
theorem dX12_init_206 : decode cX12_init 206 = .ok (.putfield 51, 3) := by decide +kernel
theorem dX12_init_209 : decode cX12_init 209 = .ok (.aload_n 0, 1) := by decide +kernel
theorem dX12_init_210 : decode cX12_init 210 = .ok (.iconst 5, 1) := by decide +kernel
theorem dX12_init_211 : decode cX12_init 211 = .ok (.newarray .int, 2) := by decide +kernel
theorem dX12_init_213 : decode cX12_init 213 = .ok (.putfield 54, 3) := by decide +kernel
theorem dX12_init_216 : decode cX12_init 216 = .ok (.aload_n 0, 1) := by decide +kernel
theorem dX12_init_217 : decode cX12_init 217 = .ok (.iconst 5, 1) := by decide +kernel
theorem dX12_init_218 : decode cX12_init 218 = .ok (.newarray .int, 2) := by decide +kernel
theorem dX12_init_220 : decode cX12_init 220 = .ok (.putfield 57, 3) := by decide +kernel
theorem dX12_init_223 : decode cX12_init 223 = .ok (.aload_n 0, 1) := by decide +kernel
theorem dX12_init_224 : decode cX12_init 224 = .ok (.iconst 5, 1) := by decide +kernel
theorem dX12_init_225 : decode cX12_init 225 = .ok (.newarray .int, 2) := by decide +kernel
theorem dX12_init_227 : decode cX12_init 227 = .ok (.putfield 60, 3) := by decide +kernel
theorem dX12_init_230 : decode cX12_init 230 = .ok (.aload_n 0, 1) := by decide +kernel
theorem dX12_init_231 : decode cX12_init 231 = .ok (.bipush 120, 2) := by decide +kernel
theorem dX12_init_233 : decode cX12_init 233 = .ok (.newarray .int, 2) := by decide +kernel
theorem dX12_init_235 : decode cX12_init 235 = .ok (.putfield 63, 3) := by decide +kernel
theorem dX12_init_238 : decode cX12_init 238 = .ok (.aload_n 0, 1) := by decide +kernel
theorem dX12_init_239 : decode cX12_init 239 = .ok (.bipush 24, 2) := by decide +kernel
theorem dX12_init_241 : decode cX12_init 241 = .ok (.newarray .int, 2) := by decide +kernel
theorem dX12_init_243 : decode cX12_init 243 = .ok (.putfield 66, 3) := by decide +kernel
theorem dX12_init_246 : decode cX12_init 246 = .ok (.aload_n 0, 1) := by decide +kernel
theorem dX12_init_247 : decode cX12_init 247 = .ok (.bipush 60, 2) := by decide +kernel
theorem dX12_init_249 : decode cX12_init 249 = .ok (.newarray .int, 2) := by decide +kernel
theorem dX12_init_251 : decode cX12_init 251 = .ok (.putfield 69, 3) := by decide +kernel
theorem dX12_init_254 : decode cX12_init 254 = .ok (.aload_n 0, 1) := by decide +kernel
theorem dX12_init_255 : decode cX12_init 255 = .ok (.getfield 9, 3) := by decide +kernel
theorem dX12_init_258 : decode cX12_init 258 = .ok (.iconst 0, 1) := by decide +kernel
theorem dX12_init_259 : decode cX12_init 259 = .ok (.iconst 1, 1) := by decide +kernel
theorem dX12_init_260 : decode cX12_init 260 = .ok (.iastore, 1) := by decide +kernel
theorem dX12_init_261 : decode cX12_init 261 = .ok (.aload_n 0, 1) := by decide +kernel
theorem dX12_init_262 : decode cX12_init 262 = .ok (.getfield 9, 3) := by decide +kernel
theorem dX12_init_265 : decode cX12_init 265 = .ok (.bipush 6, 2) := by decide +kernel
theorem dX12_init_267 : decode cX12_init 267 = .ok (.iconst 3, 1) := by decide +kernel
theorem dX12_init_268 : decode cX12_init 268 = .ok (.iastore, 1) := by decide +kernel
theorem dX12_init_269 : decode cX12_init 269 = .ok (.return_, 1) := by decide +kernel
theorem dX12_in_0 : decode cX12_in 0 = .ok (.iload_n 0, 1) := by decide +kernel
theorem dX12_in_1 : decode cX12_in 1 = .ok (.iload_n 1, 1) := by decide +kernel
theorem dX12_in_2 : decode cX12_in 2 = .ok (.if_icmp .lt 12, 3) := by decide +kernel
theorem dX12_in_5 : decode cX12_in 5 = .ok (.iload_n 0, 1) := by decide +kernel
theorem dX12_in_6 : decode cX12_in 6 = .ok (.iload_n 2, 1) := by decide +kernel
theorem dX12_in_7 : decode cX12_in 7 = .ok (.if_icmp .gt 7, 3) := by decide +kernel
theorem dX12_in_10 : decode cX12_in 10 = .ok (.iconst 1, 1) := by decide +kernel
theorem dX12_in_11 : decode cX12_in 11 = .ok (.goto 4, 3) := by decide +kernel
theorem dX12_in_14 : decode cX12_in 14 = .ok (.iconst 0, 1) := by decide +kernel
theorem dX12_in_15 : decode cX12_in 15 = .ok (.ireturn, 1) := by decide +kernel
theorem dX12_within_0 : decode cX12_within 0 = .ok (.iload_n 0, 1) := by decide +kernel
theorem dX12_within_1 : decode cX12_within 1 = .ok (.iload_n 1, 1) := by decide +kernel
theorem dX12_within_2 : decode cX12_within 2 = .ok (.if_icmp .ge 7, 3) := by decide +kernel
theorem dX12_within_5 : decode cX12_within 5 = .ok (.iload_n 1, 1) := by decide +kernel
theorem dX12_within_6 : decode cX12_within 6 = .ok (.goto 13, 3) := by decide +kernel
theorem dX12_within_9 : decode cX12_within 9 = .ok (.iload_n 0, 1) := by decide +kernel
theorem dX12_within_10 : decode cX12_within 10 = .ok (.iload_n 2, 1) := by decide +kernel
theorem dX12_within_11 : decode cX12_within 11 = .ok (.if_icmp .le 7, 3) := by decide +kernel
theorem dX12_within_14 : decode cX12_within 14 = .ok (.iload_n 2, 1) := by decide +kernel
theorem dX12_within_15 : decode cX12_within 15 = .ok (.goto 4, 3) := by decide +kernel
theorem dX12_within_18 : decode cX12_within 18 = .ok (.iload_n 0, 1) := by decide +kernel
theorem dX12_within_19 : decode cX12_within 19 = .ok (.ireturn, 1) := by decide +kernel
theorem dX12_copyAll_0 : decode cX12_copyAll 0 = .ok (.iconst 0, 1) := by decide +kernel
theorem dX12_copyAll_1 : decode cX12_copyAll 1 = .ok (.istore_n 2, 1) := by decide +kernel
theorem dX12_copyAll_2 : decode cX12_copyAll 2 = .ok (.iload_n 2, 1) := by decide +kernel
theorem dX12_copyAll_3 : decode cX12_copyAll 3 = .ok (.sipush 1482, 3) := by decide +kernel
theorem dX12_copyAll_6 : decode cX12_copyAll 6 = .ok (.if_icmp .ge 15, 3) := by decide +kernel
theorem dX12_copyAll_9 : decode cX12_copyAll 9 = .ok (.aload_n 1, 1) := by decide +kernel
theorem dX12_copyAll_10 : decode cX12_copyAll 10 = .ok (.iload_n 2, 1) := by decide +kernel
theorem dX12_copyAll_11 : decode cX12_copyAll 11 = .ok (.aload_n 0, 1) := by decide +kernel
theorem dX12_copyAll_12 : decode cX12_copyAll 12 = .ok (.iload_n 2, 1) := by decide +kernel
theorem dX12_copyAll_13 : decode cX12_copyAll 13 = .ok (.iaload, 1) := by decide +kernel
theorem dX12_copyAll_14 : decode cX12_copyAll 14 = .ok (.iastore, 1) := by decide +kernel
theorem dX12_copyAll_15 : decode cX12_copyAll 15 = .ok (.iinc 2 1, 3) := by decide +kernel
theorem dX12_copyAll_18 : decode cX12_copyAll 18 = .ok (.goto (-16), 3) := by decide +kernel
theorem dX12_copyAll_21 : decode cX12_copyAll 21 = .ok (.return_, 1) := by decide +kernel
theorem dX12_told0_0 : decode cX12_told0 0 = .ok (.iload_n 0, 1) := by decide +kernel
theorem dX12_told0_1 : decode cX12_told0 1 = .ok (.ifCond .ge 8, 3) := by decide +kernel
theorem dX12_told0_4 : decode cX12_told0 4 = .ok (.ldc 72, 2) := by decide +kernel
theorem dX12_told0_6 : decode cX12_told0 6 = .ok (.goto 4, 3) := by decide +kernel
theorem dX12_told0_9 : decode cX12_told0 9 = .ok (.iload_n 0, 1) := by decide +kernel
theorem dX12_told0_10 : decode cX12_told0 10 = .ok (.ireturn, 1) := by decide +kernel
theorem dX12_isHouse_0 : decode cX12_isHouse 0 = .ok (.iload_n 1, 1) := by decide +kernel
theorem dX12_isHouse_1 : decode cX12_isHouse 1 = .ok (.iconst 0, 1) := by decide +kernel
theorem dX12_isHouse_2 : decode cX12_isHouse 2 = .ok (.aload_n 0, 1) := by decide +kernel
theorem dX12_isHouse_3 : decode cX12_isHouse 3 = .ok (.getfield 9, 3) := by decide +kernel
theorem dX12_isHouse_6 : decode cX12_isHouse 6 = .ok (.iconst 1, 1) := by decide +kernel
theorem dX12_isHouse_7 : decode cX12_isHouse 7 = .ok (.iaload, 1) := by decide +kernel
theorem dX12_isHouse_8 : decode cX12_isHouse 8 = .ok (.iconst 1, 1) := by decide +kernel
theorem dX12_isHouse_9 : decode cX12_isHouse 9 = .ok (.isub, 1) := by decide +kernel
theorem dX12_isHouse_10 : decode cX12_isHouse 10 = .ok (.invokestatic 73, 3) := by decide +kernel
theorem dX12_isHouse_13 : decode cX12_isHouse 13 = .ok (.ireturn, 1) := by decide +kernel
theorem dX12_isDoor_0 : decode cX12_isDoor 0 = .ok (.iload_n 1, 1) := by decide +kernel
theorem dX12_isDoor_1 : decode cX12_isDoor 1 = .ok (.iconst 0, 1) := by decide +kernel
theorem dX12_isDoor_2 : decode cX12_isDoor 2 = .ok (.aload_n 0, 1) := by decide +kernel
theorem dX12_isDoor_3 : decode cX12_isDoor 3 = .ok (.getfield 9, 3) := by decide +kernel
theorem dX12_isDoor_6 : decode cX12_isDoor 6 = .ok (.iconst 2, 1) := by decide +kernel
theorem dX12_isDoor_7 : decode cX12_isDoor 7 = .ok (.iaload, 1) := by decide +kernel
theorem dX12_isDoor_8 : decode cX12_isDoor 8 = .ok (.iconst 1, 1) := by decide +kernel
theorem dX12_isDoor_9 : decode cX12_isDoor 9 = .ok (.isub, 1) := by decide +kernel
theorem dX12_isDoor_10 : decode cX12_isDoor 10 = .ok (.invokestatic 73, 3) := by decide +kernel
theorem dX12_isDoor_13 : decode cX12_isDoor 13 = .ok (.ireturn, 1) := by decide +kernel
theorem dX12_isThief_0 : decode cX12_isThief 0 = .ok (.iload_n 1, 1) := by decide +kernel
theorem dX12_isThief_1 : decode cX12_isThief 1 = .ok (.iconst 0, 1) := by decide +kernel
theorem dX12_isThief_2 : decode cX12_isThief 2 = .ok (.aload_n 0, 1) := by decide +kernel
theorem dX12_isThief_3 : decode cX12_isThief 3 = .ok (.getfield 9, 3) := by decide +kernel
theorem dX12_isThief_6 : decode cX12_isThief 6 = .ok (.iconst 3, 1) := by decide +kernel
theorem dX12_isThief_7 : decode cX12_isThief 7 = .ok (.iaload, 1) := by decide +kernel
theorem dX12_isThief_8 : decode cX12_isThief 8 = .ok (.iconst 1, 1) := by decide +kernel
theorem dX12_isThief_9 : decode cX12_isThief 9 = .ok (.isub, 1) := by decide +kernel
theorem dX12_isThief_10 : decode cX12_isThief 10 = .ok (.invokestatic 73, 3) := by decide +kernel
theorem dX12_isThief_13 : decode cX12_isThief 13 = .ok (.ireturn, 1) := by decide +kernel
theorem dX12_houseOf_0 : decode cX12_houseOf 0 = .ok (.aload_n 0, 1) := by decide +kernel
theorem dX12_houseOf_1 : decode cX12_houseOf 1 = .ok (.getfield 9, 3) := by decide +kernel
theorem dX12_houseOf_4 : decode cX12_houseOf 4 = .ok (.bipush 8, 2) := by decide +kernel
theorem dX12_houseOf_6 : decode cX12_houseOf 6 = .ok (.iconst 3, 1) := by decide +kernel
theorem dX12_houseOf_7 : decode cX12_houseOf 7 = .ok (.iload_n 1, 1) := by decide +kernel
theorem dX12_houseOf_8 : decode cX12_houseOf 8 = .ok (.imul, 1) := by decide +kernel
theorem dX12_houseOf_9 : decode cX12_houseOf 9 = .ok (.iadd, 1) := by decide +kernel
theorem dX12_houseOf_10 : decode cX12_houseOf 10 = .ok (.iload_n 2, 1) := by decide +kernel
theorem dX12_houseOf_11 : decode cX12_houseOf 11 = .ok (.iadd, 1) := by decide +kernel
theorem dX12_houseOf_12 : decode cX12_houseOf 12 = .ok (.iaload, 1) := by decide +kernel
theorem dX12_houseOf_13 : decode cX12_houseOf 13 = .ok (.ireturn, 1) := by decide +kernel
theorem dX12_doorOf_0 : decode cX12_doorOf 0 = .ok (.aload_n 0, 1) := by decide +kernel
theorem dX12_doorOf_1 : decode cX12_doorOf 1 = .ok (.getfield 9, 3) := by decide +kernel
theorem dX12_doorOf_4 : decode cX12_doorOf 4 = .ok (.bipush 38, 2) := by decide +kernel
theorem dX12_doorOf_6 : decode cX12_doorOf 6 = .ok (.iconst 5, 1) := by decide +kernel
theorem dX12_doorOf_7 : decode cX12_doorOf 7 = .ok (.iload_n 1, 1) := by decide +kernel
theorem dX12_doorOf_8 : decode cX12_doorOf 8 = .ok (.imul, 1) := by decide +kernel
theorem dX12_doorOf_9 : decode cX12_doorOf 9 = .ok (.iadd, 1) := by decide +kernel
theorem dX12_doorOf_10 : decode cX12_doorOf 10 = .ok (.iload_n 2, 1) := by decide +kernel
theorem dX12_doorOf_11 : decode cX12_doorOf 11 = .ok (.iadd, 1) := by decide +kernel
theorem dX12_doorOf_12 : decode cX12_doorOf 12 = .ok (.iaload, 1) := by decide +kernel
theorem dX12_doorOf_13 : decode cX12_doorOf 13 = .ok (.ireturn, 1) := by decide +kernel
theorem dX12_kindOf_0 : decode cX12_kindOf 0 = .ok (.aload_n 0, 1) := by decide +kernel
theorem dX12_kindOf_1 : decode cX12_kindOf 1 = .ok (.getfield 9, 3) := by decide +kernel
theorem dX12_kindOf_4 : decode cX12_kindOf 4 = .ok (.bipush 98, 2) := by decide +kernel
theorem dX12_kindOf_6 : decode cX12_kindOf 6 = .ok (.iconst 2, 1) := by decide +kernel
theorem dX12_kindOf_7 : decode cX12_kindOf 7 = .ok (.iload_n 1, 1) := by decide +kernel
theorem dX12_kindOf_8 : decode cX12_kindOf 8 = .ok (.imul, 1) := by decide +kernel
theorem dX12_kindOf_9 : decode cX12_kindOf 9 = .ok (.iadd, 1) := by decide +kernel
theorem dX12_kindOf_10 : decode cX12_kindOf 10 = .ok (.iaload, 1) := by decide +kernel
theorem dX12_kindOf_11 : decode cX12_kindOf 11 = .ok (.ireturn, 1) := by decide +kernel
theorem dX12_homeOf_0 : decode cX12_homeOf 0 = .ok (.aload_n 0, 1) := by decide +kernel
theorem dX12_homeOf_1 : decode cX12_homeOf 1 = .ok (.getfield 9, 3) := by decide +kernel
theorem dX12_homeOf_4 : decode cX12_homeOf 4 = .ok (.bipush 98, 2) := by decide +kernel
theorem dX12_homeOf_6 : decode cX12_homeOf 6 = .ok (.iconst 2, 1) := by decide +kernel
theorem dX12_homeOf_7 : decode cX12_homeOf 7 = .ok (.iload_n 1, 1) := by decide +kernel
theorem dX12_homeOf_8 : decode cX12_homeOf 8 = .ok (.imul, 1) := by decide +kernel
theorem dX12_homeOf_9 : decode cX12_homeOf 9 = .ok (.iadd, 1) := by decide +kernel
theorem dX12_homeOf_10 : decode cX12_homeOf 10 = .ok (.iconst 1, 1) := by decide +kernel
theorem dX12_homeOf_11 : decode cX12_homeOf 11 = .ok (.iadd, 1) := by decide +kernel
theorem dX12_homeOf_12 : decode cX12_homeOf 12 = .ok (.iaload, 1) := by decide +kernel
theorem dX12_homeOf_13 : decode cX12_homeOf 13 = .ok (.ireturn, 1) := by decide +kernel
theorem dX12_becomes_0 : decode cX12_becomes 0 = .ok (.aload_n 0, 1) := by decide +kernel
theorem dX12_becomes_1 : decode cX12_becomes 1 = .ok (.getfield 9, 3) := by decide +kernel
theorem dX12_becomes_4 : decode cX12_becomes 4 = .ok (.iload_n 1, 1) := by decide +kernel
theorem dX12_becomes_5 : decode cX12_becomes 5 = .ok (.iaload, 1) := by decide +kernel
theorem dX12_becomes_6 : decode cX12_becomes 6 = .ok (.istore_n 3, 1) := by decide +kernel
theorem dX12_becomes_7 : decode cX12_becomes 7 = .ok (.aload_n 0, 1) := by decide +kernel
theorem dX12_becomes_8 : decode cX12_becomes 8 = .ok (.getfield 9, 3) := by decide +kernel
theorem dX12_becomes_11 : decode cX12_becomes 11 = .ok (.iload_n 1, 1) := by decide +kernel
theorem dX12_becomes_12 : decode cX12_becomes 12 = .ok (.iload_n 2, 1) := by decide +kernel
theorem dX12_becomes_13 : decode cX12_becomes 13 = .ok (.iastore, 1) := by decide +kernel
theorem dX12_becomes_14 : decode cX12_becomes 14 = .ok (.iload_n 3, 1) := by decide +kernel
theorem dX12_becomes_15 : decode cX12_becomes 15 = .ok (.ireturn, 1) := by decide +kernel
theorem dX12_draw_0 : decode cX12_draw 0 = .ok (.aload_n 0, 1) := by decide +kernel
theorem dX12_draw_1 : decode cX12_draw 1 = .ok (.getfield 9, 3) := by decide +kernel
theorem dX12_draw_4 : decode cX12_draw 4 = .ok (.iconst 0, 1) := by decide +kernel
theorem dX12_draw_5 : decode cX12_draw 5 = .ok (.aload_n 0, 1) := by decide +kernel
theorem dX12_draw_6 : decode cX12_draw 6 = .ok (.getfield 9, 3) := by decide +kernel
theorem dX12_draw_9 : decode cX12_draw 9 = .ok (.iconst 0, 1) := by decide +kernel
theorem dX12_draw_10 : decode cX12_draw 10 = .ok (.iaload, 1) := by decide +kernel
theorem dX12_draw_11 : decode cX12_draw 11 = .ok (.ldc 77, 2) := by decide +kernel
theorem dX12_draw_13 : decode cX12_draw 13 = .ok (.imul, 1) := by decide +kernel
theorem dX12_draw_14 : decode cX12_draw 14 = .ok (.sipush 12345, 3) := by decide +kernel
theorem dX12_draw_17 : decode cX12_draw 17 = .ok (.iadd, 1) := by decide +kernel
theorem dX12_draw_18 : decode cX12_draw 18 = .ok (.iastore, 1) := by decide +kernel
theorem dX12_draw_19 : decode cX12_draw 19 = .ok (.aload_n 0, 1) := by decide +kernel
theorem dX12_draw_20 : decode cX12_draw 20 = .ok (.getfield 9, 3) := by decide +kernel
theorem dX12_draw_23 : decode cX12_draw 23 = .ok (.iconst 0, 1) := by decide +kernel
theorem dX12_draw_24 : decode cX12_draw 24 = .ok (.iaload, 1) := by decide +kernel
theorem dX12_draw_25 : decode cX12_draw 25 = .ok (.bipush 8, 2) := by decide +kernel
theorem dX12_draw_27 : decode cX12_draw 27 = .ok (.iushr, 1) := by decide +kernel
theorem dX12_draw_28 : decode cX12_draw 28 = .ok (.ireturn, 1) := by decide +kernel
theorem dX12_comes_0 : decode cX12_comes 0 = .ok (.bipush 8, 2) := by decide +kernel
theorem dX12_comes_2 : decode cX12_comes 2 = .ok (.iconst 3, 1) := by decide +kernel
theorem dX12_comes_3 : decode cX12_comes 3 = .ok (.aload_n 0, 1) := by decide +kernel
theorem dX12_comes_4 : decode cX12_comes 4 = .ok (.getfield 9, 3) := by decide +kernel
theorem dX12_comes_7 : decode cX12_comes 7 = .ok (.iconst 1, 1) := by decide +kernel
theorem dX12_comes_8 : decode cX12_comes 8 = .ok (.iaload, 1) := by decide +kernel
theorem dX12_comes_9 : decode cX12_comes 9 = .ok (.imul, 1) := by decide +kernel
theorem dX12_comes_10 : decode cX12_comes 10 = .ok (.iadd, 1) := by decide +kernel
theorem dX12_comes_11 : decode cX12_comes 11 = .ok (.istore_n 3, 1) := by decide +kernel
theorem dX12_comes_12 : decode cX12_comes 12 = .ok (.aload_n 0, 1) := by decide +kernel
theorem dX12_comes_13 : decode cX12_comes 13 = .ok (.getfield 9, 3) := by decide +kernel
theorem dX12_comes_16 : decode cX12_comes 16 = .ok (.iload_n 3, 1) := by decide +kernel
theorem dX12_comes_17 : decode cX12_comes 17 = .ok (.iload_n 1, 1) := by decide +kernel
theorem dX12_comes_18 : decode cX12_comes 18 = .ok (.iastore, 1) := by decide +kernel
theorem dX12_comes_19 : decode cX12_comes 19 = .ok (.aload_n 0, 1) := by decide +kernel
theorem dX12_comes_20 : decode cX12_comes 20 = .ok (.getfield 9, 3) := by decide +kernel
theorem dX12_comes_23 : decode cX12_comes 23 = .ok (.iload_n 3, 1) := by decide +kernel
theorem dX12_comes_24 : decode cX12_comes 24 = .ok (.iconst 1, 1) := by decide +kernel
theorem dX12_comes_25 : decode cX12_comes 25 = .ok (.iadd, 1) := by decide +kernel
theorem dX12_comes_26 : decode cX12_comes 26 = .ok (.iload_n 2, 1) := by decide +kernel
theorem dX12_comes_27 : decode cX12_comes 27 = .ok (.iastore, 1) := by decide +kernel
theorem dX12_comes_28 : decode cX12_comes 28 = .ok (.aload_n 0, 1) := by decide +kernel
theorem dX12_comes_29 : decode cX12_comes 29 = .ok (.getfield 9, 3) := by decide +kernel
theorem dX12_comes_32 : decode cX12_comes 32 = .ok (.iload_n 3, 1) := by decide +kernel
theorem dX12_comes_33 : decode cX12_comes 33 = .ok (.iconst 2, 1) := by decide +kernel
theorem dX12_comes_34 : decode cX12_comes 34 = .ok (.iadd, 1) := by decide +kernel
theorem dX12_comes_35 : decode cX12_comes 35 = .ok (.iconst 0, 1) := by decide +kernel
theorem dX12_comes_36 : decode cX12_comes 36 = .ok (.iastore, 1) := by decide +kernel
theorem dX12_comes_37 : decode cX12_comes 37 = .ok (.aload_n 0, 1) := by decide +kernel
theorem dX12_comes_38 : decode cX12_comes 38 = .ok (.getfield 9, 3) := by decide +kernel
theorem dX12_comes_41 : decode cX12_comes 41 = .ok (.iconst 1, 1) := by decide +kernel
theorem dX12_comes_42 : decode cX12_comes 42 = .ok (.dup2, 1) := by decide +kernel
theorem dX12_comes_43 : decode cX12_comes 43 = .ok (.iaload, 1) := by decide +kernel
theorem dX12_comes_44 : decode cX12_comes 44 = .ok (.iconst 1, 1) := by decide +kernel
theorem dX12_comes_45 : decode cX12_comes 45 = .ok (.iadd, 1) := by decide +kernel
theorem dX12_comes_46 : decode cX12_comes 46 = .ok (.iastore, 1) := by decide +kernel
theorem dX12_comes_47 : decode cX12_comes 47 = .ok (.aload_n 0, 1) := by decide +kernel
theorem dX12_comes_48 : decode cX12_comes 48 = .ok (.getfield 9, 3) := by decide +kernel
theorem dX12_comes_51 : decode cX12_comes 51 = .ok (.iconst 1, 1) := by decide +kernel
theorem dX12_comes_52 : decode cX12_comes 52 = .ok (.iaload, 1) := by decide +kernel
theorem dX12_comes_53 : decode cX12_comes 53 = .ok (.iconst 1, 1) := by decide +kernel
theorem dX12_comes_54 : decode cX12_comes 54 = .ok (.isub, 1) := by decide +kernel
theorem dX12_comes_55 : decode cX12_comes 55 = .ok (.ireturn, 1) := by decide +kernel
theorem dX12_house_0 : decode cX12_house 0 = .ok (.iload_n 1, 1) := by decide +kernel
theorem dX12_house_1 : decode cX12_house 1 = .ok (.iconst 0, 1) := by decide +kernel
theorem dX12_house_2 : decode cX12_house 2 = .ok (.bipush 100, 2) := by decide +kernel
theorem dX12_house_4 : decode cX12_house 4 = .ok (.invokestatic 73, 3) := by decide +kernel
theorem dX12_house_7 : decode cX12_house 7 = .ok (.ifCond .eq 13, 3) := by decide +kernel
theorem dX12_house_10 : decode cX12_house 10 = .ok (.iload_n 2, 1) := by decide +kernel
theorem dX12_house_11 : decode cX12_house 11 = .ok (.iconst 0, 1) := by decide +kernel
theorem dX12_house_12 : decode cX12_house 12 = .ok (.bipush 100, 2) := by decide +kernel
theorem dX12_house_14 : decode cX12_house 14 = .ok (.invokestatic 73, 3) := by decide +kernel
theorem dX12_house_17 : decode cX12_house 17 = .ok (.ifCond .ne 6, 3) := by decide +kernel
theorem dX12_house_20 : decode cX12_house 20 = .ok (.ldc 78, 2) := by decide +kernel
theorem dX12_house_22 : decode cX12_house 22 = .ok (.ireturn, 1) := by decide +kernel
theorem dX12_house_23 : decode cX12_house 23 = .ok (.aload_n 0, 1) := by decide +kernel
theorem dX12_house_24 : decode cX12_house 24 = .ok (.getfield 9, 3) := by decide +kernel
theorem dX12_house_27 : decode cX12_house 27 = .ok (.iconst 1, 1) := by decide +kernel
theorem dX12_house_28 : decode cX12_house 28 = .ok (.iaload, 1) := by decide +kernel
theorem dX12_house_29 : decode cX12_house 29 = .ok (.bipush 10, 2) := by decide +kernel
theorem dX12_house_31 : decode cX12_house 31 = .ok (.if_icmp .ne 8, 3) := by decide +kernel
theorem dX12_house_34 : decode cX12_house 34 = .ok (.ldc 79, 2) := by decide +kernel
theorem dX12_house_36 : decode cX12_house 36 = .ok (.goto 9, 3) := by decide +kernel
theorem dX12_house_39 : decode cX12_house 39 = .ok (.aload_n 0, 1) := by decide +kernel
theorem dX12_house_40 : decode cX12_house 40 = .ok (.iload_n 1, 1) := by decide +kernel
theorem dX12_house_41 : decode cX12_house 41 = .ok (.iload_n 2, 1) := by decide +kernel
theorem dX12_house_42 : decode cX12_house 42 = .ok (.invokevirtual 80, 3) := by decide +kernel
theorem dX12_house_45 : decode cX12_house 45 = .ok (.ireturn, 1) := by decide +kernel
theorem dX12_bellsIn_0 : decode cX12_bellsIn 0 = .ok (.iconst 0, 1) := by decide +kernel
theorem dX12_bellsIn_1 : decode cX12_bellsIn 1 = .ok (.istore 4, 2) := by decide +kernel
theorem dX12_bellsIn_3 : decode cX12_bellsIn 3 = .ok (.iconst 0, 1) := by decide +kernel
theorem dX12_bellsIn_4 : decode cX12_bellsIn 4 = .ok (.istore 5, 2) := by decide +kernel
theorem dX12_bellsIn_6 : decode cX12_bellsIn 6 = .ok (.iload 5, 2) := by decide +kernel
theorem dX12_bellsIn_8 : decode cX12_bellsIn 8 = .ok (.aload_n 0, 1) := by decide +kernel
theorem dX12_bellsIn_9 : decode cX12_bellsIn 9 = .ok (.getfield 9, 3) := by decide +kernel
theorem dX12_bellsIn_12 : decode cX12_bellsIn 12 = .ok (.iconst 2, 1) := by decide +kernel
theorem dX12_bellsIn_13 : decode cX12_bellsIn 13 = .ok (.iaload, 1) := by decide +kernel
theorem dX12_bellsIn_14 : decode cX12_bellsIn 14 = .ok (.if_icmp .ge 68, 3) := by decide +kernel
theorem dX12_bellsIn_17 : decode cX12_bellsIn 17 = .ok (.iconst 0, 1) := by decide +kernel
theorem dX12_bellsIn_18 : decode cX12_bellsIn 18 = .ok (.istore 6, 2) := by decide +kernel
theorem dX12_bellsIn_20 : decode cX12_bellsIn 20 = .ok (.iload 6, 2) := by decide +kernel
theorem dX12_bellsIn_22 : decode cX12_bellsIn 22 = .ok (.iconst 2, 1) := by decide +kernel
theorem dX12_bellsIn_23 : decode cX12_bellsIn 23 = .ok (.if_icmp .ge 53, 3) := by decide +kernel
theorem dX12_bellsIn_26 : decode cX12_bellsIn 26 = .ok (.iload 5, 2) := by decide +kernel
theorem dX12_bellsIn_28 : decode cX12_bellsIn 28 = .ok (.iload_n 2, 1) := by decide +kernel
theorem dX12_bellsIn_29 : decode cX12_bellsIn 29 = .ok (.if_icmp .eq 47, 3) := by decide +kernel
theorem dX12_bellsIn_32 : decode cX12_bellsIn 32 = .ok (.iload 4, 2) := by decide +kernel
theorem dX12_bellsIn_34 : decode cX12_bellsIn 34 = .ok (.aload_n 0, 1) := by decide +kernel
theorem dX12_bellsIn_35 : decode cX12_bellsIn 35 = .ok (.iload 5, 2) := by decide +kernel
theorem dX12_bellsIn_37 : decode cX12_bellsIn 37 = .ok (.iconst 3, 1) := by decide +kernel
theorem dX12_bellsIn_38 : decode cX12_bellsIn 38 = .ok (.iload 6, 2) := by decide +kernel
theorem dX12_bellsIn_40 : decode cX12_bellsIn 40 = .ok (.iadd, 1) := by decide +kernel
theorem dX12_bellsIn_41 : decode cX12_bellsIn 41 = .ok (.invokevirtual 84, 3) := by decide +kernel
theorem dX12_bellsIn_44 : decode cX12_bellsIn 44 = .ok (.iload_n 1, 1) := by decide +kernel
theorem dX12_bellsIn_45 : decode cX12_bellsIn 45 = .ok (.if_icmp .eq 7, 3) := by decide +kernel
theorem dX12_bellsIn_48 : decode cX12_bellsIn 48 = .ok (.iconst 0, 1) := by decide +kernel
theorem dX12_bellsIn_49 : decode cX12_bellsIn 49 = .ok (.goto 18, 3) := by decide +kernel
theorem dX12_bellsIn_52 : decode cX12_bellsIn 52 = .ok (.iload_n 3, 1) := by decide +kernel
theorem dX12_bellsIn_53 : decode cX12_bellsIn 53 = .ok (.ifCond .eq 13, 3) := by decide +kernel
theorem dX12_bellsIn_56 : decode cX12_bellsIn 56 = .ok (.aload_n 0, 1) := by decide +kernel
theorem dX12_bellsIn_57 : decode cX12_bellsIn 57 = .ok (.iload 5, 2) := by decide +kernel
theorem dX12_bellsIn_59 : decode cX12_bellsIn 59 = .ok (.iconst 2, 1) := by decide +kernel
theorem dX12_bellsIn_60 : decode cX12_bellsIn 60 = .ok (.invokevirtual 84, 3) := by decide +kernel
theorem dX12_bellsIn_63 : decode cX12_bellsIn 63 = .ok (.goto 4, 3) := by decide +kernel
theorem dX12_bellsIn_66 : decode cX12_bellsIn 66 = .ok (.iconst 1, 1) := by decide +kernel
theorem dX12_bellsIn_67 : decode cX12_bellsIn 67 = .ok (.iadd, 1) := by decide +kernel
theorem dX12_bellsIn_68 : decode cX12_bellsIn 68 = .ok (.istore 4, 2) := by decide +kernel
theorem dX12_bellsIn_70 : decode cX12_bellsIn 70 = .ok (.iinc 6 1, 3) := by decide +kernel
theorem dX12_bellsIn_73 : decode cX12_bellsIn 73 = .ok (.goto (-53), 3) := by decide +kernel
theorem dX12_bellsIn_76 : decode cX12_bellsIn 76 = .ok (.iinc 5 1, 3) := by decide +kernel
theorem dX12_bellsIn_79 : decode cX12_bellsIn 79 = .ok (.goto (-73), 3) := by decide +kernel
theorem dX12_bellsIn_82 : decode cX12_bellsIn 82 = .ok (.iload 4, 2) := by decide +kernel
theorem dX12_bellsIn_84 : decode cX12_bellsIn 84 = .ok (.ireturn, 1) := by decide +kernel
theorem dX12_comesOf_0 : decode cX12_comesOf 0 = .ok (.aload_n 0, 1) := by decide +kernel
theorem dX12_comesOf_1 : decode cX12_comesOf 1 = .ok (.iload_n 1, 1) := by decide +kernel
theorem dX12_comesOf_2 : decode cX12_comesOf 2 = .ok (.iconst (-1), 1) := by decide +kernel
theorem dX12_comesOf_3 : decode cX12_comesOf 3 = .ok (.iconst 0, 1) := by decide +kernel
theorem dX12_comesOf_4 : decode cX12_comesOf 4 = .ok (.invokevirtual 87, 3) := by decide +kernel
theorem dX12_comesOf_7 : decode cX12_comesOf 7 = .ok (.istore_n 2, 1) := by decide +kernel
theorem dX12_comesOf_8 : decode cX12_comesOf 8 = .ok (.aload_n 0, 1) := by decide +kernel
theorem dX12_comesOf_9 : decode cX12_comesOf 9 = .ok (.iconst 0, 1) := by decide +kernel
theorem dX12_comesOf_10 : decode cX12_comesOf 10 = .ok (.invokevirtual 91, 3) := by decide +kernel
theorem dX12_comesOf_13 : decode cX12_comesOf 13 = .ok (.istore_n 3, 1) := by decide +kernel
theorem dX12_comesOf_14 : decode cX12_comesOf 14 = .ok (.aload_n 0, 1) := by decide +kernel
theorem dX12_comesOf_15 : decode cX12_comesOf 15 = .ok (.getfield 42, 3) := by decide +kernel
theorem dX12_comesOf_18 : decode cX12_comesOf 18 = .ok (.iconst 0, 1) := by decide +kernel
theorem dX12_comesOf_19 : decode cX12_comesOf 19 = .ok (.aload_n 0, 1) := by decide +kernel
theorem dX12_comesOf_20 : decode cX12_comesOf 20 = .ok (.iload_n 1, 1) := by decide +kernel
theorem dX12_comesOf_21 : decode cX12_comesOf 21 = .ok (.iconst 0, 1) := by decide +kernel
theorem dX12_comesOf_22 : decode cX12_comesOf 22 = .ok (.invokevirtual 95, 3) := by decide +kernel
theorem dX12_comesOf_25 : decode cX12_comesOf 25 = .ok (.iastore, 1) := by decide +kernel
theorem dX12_comesOf_26 : decode cX12_comesOf 26 = .ok (.aload_n 0, 1) := by decide +kernel
theorem dX12_comesOf_27 : decode cX12_comesOf 27 = .ok (.getfield 42, 3) := by decide +kernel
theorem dX12_comesOf_30 : decode cX12_comesOf 30 = .ok (.iconst 1, 1) := by decide +kernel
theorem dX12_comesOf_31 : decode cX12_comesOf 31 = .ok (.aload_n 0, 1) := by decide +kernel
theorem dX12_comesOf_32 : decode cX12_comesOf 32 = .ok (.iload_n 1, 1) := by decide +kernel
theorem dX12_comesOf_33 : decode cX12_comesOf 33 = .ok (.iconst 1, 1) := by decide +kernel
theorem dX12_comesOf_34 : decode cX12_comesOf 34 = .ok (.invokevirtual 95, 3) := by decide +kernel
theorem dX12_comesOf_37 : decode cX12_comesOf 37 = .ok (.iastore, 1) := by decide +kernel
theorem dX12_comesOf_38 : decode cX12_comesOf 38 = .ok (.aload_n 0, 1) := by decide +kernel
theorem dX12_comesOf_39 : decode cX12_comesOf 39 = .ok (.getfield 42, 3) := by decide +kernel
theorem dX12_comesOf_42 : decode cX12_comesOf 42 = .ok (.iconst 2, 1) := by decide +kernel
theorem dX12_comesOf_43 : decode cX12_comesOf 43 = .ok (.iload_n 2, 1) := by decide +kernel
theorem dX12_comesOf_44 : decode cX12_comesOf 44 = .ok (.iastore, 1) := by decide +kernel
theorem dX12_comesOf_45 : decode cX12_comesOf 45 = .ok (.aload_n 0, 1) := by decide +kernel
theorem dX12_comesOf_46 : decode cX12_comesOf 46 = .ok (.getfield 42, 3) := by decide +kernel
theorem dX12_comesOf_49 : decode cX12_comesOf 49 = .ok (.iconst 3, 1) := by decide +kernel
theorem dX12_comesOf_50 : decode cX12_comesOf 50 = .ok (.aload_n 0, 1) := by decide +kernel
theorem dX12_comesOf_51 : decode cX12_comesOf 51 = .ok (.getfield 9, 3) := by decide +kernel
theorem dX12_comesOf_54 : decode cX12_comesOf 54 = .ok (.bipush 6, 2) := by decide +kernel
theorem dX12_comesOf_56 : decode cX12_comesOf 56 = .ok (.iaload, 1) := by decide +kernel
theorem dX12_comesOf_57 : decode cX12_comesOf 57 = .ok (.iastore, 1) := by decide +kernel
theorem dX12_comesOf_58 : decode cX12_comesOf 58 = .ok (.aload_n 0, 1) := by decide +kernel
theorem dX12_comesOf_59 : decode cX12_comesOf 59 = .ok (.iload_n 1, 1) := by decide +kernel
theorem dX12_comesOf_60 : decode cX12_comesOf 60 = .ok (.iconst 0, 1) := by decide +kernel
theorem dX12_comesOf_61 : decode cX12_comesOf 61 = .ok (.invokevirtual 95, 3) := by decide +kernel
theorem dX12_comesOf_64 : decode cX12_comesOf 64 = .ok (.aload_n 0, 1) := by decide +kernel
theorem dX12_comesOf_65 : decode cX12_comesOf 65 = .ok (.iload_n 1, 1) := by decide +kernel
theorem dX12_comesOf_66 : decode cX12_comesOf 66 = .ok (.iconst 1, 1) := by decide +kernel
theorem dX12_comesOf_67 : decode cX12_comesOf 67 = .ok (.invokevirtual 95, 3) := by decide +kernel
theorem dX12_comesOf_70 : decode cX12_comesOf 70 = .ok (.imul, 1) := by decide +kernel
theorem dX12_comesOf_71 : decode cX12_comesOf 71 = .ok (.bipush 100, 2) := by decide +kernel
theorem dX12_comesOf_73 : decode cX12_comesOf 73 = .ok (.idiv, 1) := by decide +kernel
theorem dX12_comesOf_74 : decode cX12_comesOf 74 = .ok (.bipush 10, 2) := by decide +kernel
theorem dX12_comesOf_76 : decode cX12_comesOf 76 = .ok (.iload_n 2, 1) := by decide +kernel
theorem dX12_comesOf_77 : decode cX12_comesOf 77 = .ok (.aload_n 0, 1) := by decide +kernel
theorem dX12_comesOf_78 : decode cX12_comesOf 78 = .ok (.getfield 9, 3) := by decide +kernel
theorem dX12_comesOf_81 : decode cX12_comesOf 81 = .ok (.bipush 6, 2) := by decide +kernel
theorem dX12_comesOf_83 : decode cX12_comesOf 83 = .ok (.iaload, 1) := by decide +kernel
theorem dX12_comesOf_84 : decode cX12_comesOf 84 = .ok (.isub, 1) := by decide +kernel
theorem dX12_comesOf_85 : decode cX12_comesOf 85 = .ok (.iconst 0, 1) := by decide +kernel
theorem dX12_comesOf_86 : decode cX12_comesOf 86 = .ok (.bipush 99, 2) := by decide +kernel
theorem dX12_comesOf_88 : decode cX12_comesOf 88 = .ok (.invokestatic 98, 3) := by decide +kernel
theorem dX12_comesOf_91 : decode cX12_comesOf 91 = .ok (.imul, 1) := by decide +kernel
theorem dX12_comesOf_92 : decode cX12_comesOf 92 = .ok (.isub, 1) := by decide +kernel
theorem dX12_comesOf_93 : decode cX12_comesOf 93 = .ok (.istore 4, 2) := by decide +kernel
theorem dX12_comesOf_95 : decode cX12_comesOf 95 = .ok (.iload_n 3, 1) := by decide +kernel
theorem dX12_comesOf_96 : decode cX12_comesOf 96 = .ok (.ifCond .ge 8, 3) := by decide +kernel
theorem dX12_comesOf_99 : decode cX12_comesOf 99 = .ok (.iload 4, 2) := by decide +kernel
theorem dX12_comesOf_101 : decode cX12_comesOf 101 = .ok (.goto 8, 3) := by decide +kernel
theorem dX12_comesOf_104 : decode cX12_comesOf 104 = .ok (.aload_n 0, 1) := by decide +kernel
theorem dX12_comesOf_105 : decode cX12_comesOf 105 = .ok (.iload_n 3, 1) := by decide +kernel
theorem dX12_comesOf_106 : decode cX12_comesOf 106 = .ok (.invokevirtual 102, 3) := by decide +kernel
theorem dX12_comesOf_109 : decode cX12_comesOf 109 = .ok (.iconst 0, 1) := by decide +kernel
theorem dX12_comesOf_110 : decode cX12_comesOf 110 = .ok (.bipush 100, 2) := by decide +kernel
theorem dX12_comesOf_112 : decode cX12_comesOf 112 = .ok (.invokestatic 98, 3) := by decide +kernel
theorem dX12_comesOf_115 : decode cX12_comesOf 115 = .ok (.ireturn, 1) := by decide +kernel
theorem dX12_houseTold_0 : decode cX12_houseTold 0 = .ok (.aload_n 0, 1) := by decide +kernel
theorem dX12_houseTold_1 : decode cX12_houseTold 1 = .ok (.iload_n 1, 1) := by decide +kernel
theorem dX12_houseTold_2 : decode cX12_houseTold 2 = .ok (.invokevirtual 105, 3) := by decide +kernel
theorem dX12_houseTold_5 : decode cX12_houseTold 5 = .ok (.ifCond .ne 6, 3) := by decide +kernel
theorem dX12_houseTold_8 : decode cX12_houseTold 8 = .ok (.ldc 78, 2) := by decide +kernel
theorem dX12_houseTold_10 : decode cX12_houseTold 10 = .ok (.ireturn, 1) := by decide +kernel
theorem dX12_houseTold_11 : decode cX12_houseTold 11 = .ok (.iload_n 2, 1) := by decide +kernel
theorem dX12_houseTold_12 : decode cX12_houseTold 12 = .ok (.tableswitch 76 0 5 #[40, 40, 47, 55, 63, 69], 40) := by decide +kernel
theorem dX12_houseTold_52 : decode cX12_houseTold 52 = .ok (.aload_n 0, 1) := by decide +kernel
theorem dX12_houseTold_53 : decode cX12_houseTold 53 = .ok (.iload_n 1, 1) := by decide +kernel
theorem dX12_houseTold_54 : decode cX12_houseTold 54 = .ok (.iload_n 2, 1) := by decide +kernel
theorem dX12_houseTold_55 : decode cX12_houseTold 55 = .ok (.invokevirtual 95, 3) := by decide +kernel
theorem dX12_houseTold_58 : decode cX12_houseTold 58 = .ok (.ireturn, 1) := by decide +kernel
theorem dX12_houseTold_59 : decode cX12_houseTold 59 = .ok (.aload_n 0, 1) := by decide +kernel
theorem dX12_houseTold_60 : decode cX12_houseTold 60 = .ok (.iload_n 1, 1) := by decide +kernel
theorem dX12_houseTold_61 : decode cX12_houseTold 61 = .ok (.iconst (-1), 1) := by decide +kernel
theorem dX12_houseTold_62 : decode cX12_houseTold 62 = .ok (.iconst 0, 1) := by decide +kernel
theorem dX12_houseTold_63 : decode cX12_houseTold 63 = .ok (.invokevirtual 87, 3) := by decide +kernel
theorem dX12_houseTold_66 : decode cX12_houseTold 66 = .ok (.ireturn, 1) := by decide +kernel
theorem dX12_houseTold_67 : decode cX12_houseTold 67 = .ok (.aload_n 0, 1) := by decide +kernel
theorem dX12_houseTold_68 : decode cX12_houseTold 68 = .ok (.iload_n 1, 1) := by decide +kernel
theorem dX12_houseTold_69 : decode cX12_houseTold 69 = .ok (.iconst (-1), 1) := by decide +kernel
theorem dX12_houseTold_70 : decode cX12_houseTold 70 = .ok (.iconst 1, 1) := by decide +kernel
theorem dX12_houseTold_71 : decode cX12_houseTold 71 = .ok (.invokevirtual 87, 3) := by decide +kernel
theorem dX12_houseTold_74 : decode cX12_houseTold 74 = .ok (.ireturn, 1) := by decide +kernel
theorem dX12_houseTold_75 : decode cX12_houseTold 75 = .ok (.aload_n 0, 1) := by decide +kernel
theorem dX12_houseTold_76 : decode cX12_houseTold 76 = .ok (.iload_n 1, 1) := by decide +kernel
theorem dX12_houseTold_77 : decode cX12_houseTold 77 = .ok (.invokevirtual 109, 3) := by decide +kernel
theorem dX12_houseTold_80 : decode cX12_houseTold 80 = .ok (.ireturn, 1) := by decide +kernel
theorem dX12_houseTold_81 : decode cX12_houseTold 81 = .ok (.aload_n 0, 1) := by decide +kernel
theorem dX12_houseTold_82 : decode cX12_houseTold 82 = .ok (.iload_n 1, 1) := by decide +kernel
theorem dX12_houseTold_83 : decode cX12_houseTold 83 = .ok (.iconst 2, 1) := by decide +kernel
theorem dX12_houseTold_84 : decode cX12_houseTold 84 = .ok (.invokevirtual 95, 3) := by decide +kernel
theorem dX12_houseTold_87 : decode cX12_houseTold 87 = .ok (.ireturn, 1) := by decide +kernel
theorem dX12_houseTold_88 : decode cX12_houseTold 88 = .ok (.ldc 78, 2) := by decide +kernel
theorem dX12_houseTold_90 : decode cX12_houseTold 90 = .ok (.ireturn, 1) := by decide +kernel
theorem dX12_change_0 : decode cX12_change 0 = .ok (.aload_n 0, 1) := by decide +kernel
theorem dX12_change_1 : decode cX12_change 1 = .ok (.iload_n 1, 1) := by decide +kernel
theorem dX12_change_2 : decode cX12_change 2 = .ok (.invokevirtual 105, 3) := by decide +kernel
theorem dX12_change_5 : decode cX12_change 5 = .ok (.ifCond .eq 38, 3) := by decide +kernel
theorem dX12_change_8 : decode cX12_change 8 = .ok (.iload_n 2, 1) := by decide +kernel
theorem dX12_change_9 : decode cX12_change 9 = .ok (.iconst 0, 1) := by decide +kernel
theorem dX12_change_10 : decode cX12_change 10 = .ok (.iconst 1, 1) := by decide +kernel
theorem dX12_change_11 : decode cX12_change 11 = .ok (.invokestatic 73, 3) := by decide +kernel
theorem dX12_change_14 : decode cX12_change 14 = .ok (.ifCond .eq 29, 3) := by decide +kernel
theorem dX12_change_17 : decode cX12_change 17 = .ok (.iload_n 3, 1) := by decide +kernel
theorem dX12_change_18 : decode cX12_change 18 = .ok (.iconst 0, 1) := by decide +kernel
theorem dX12_change_19 : decode cX12_change 19 = .ok (.bipush 100, 2) := by decide +kernel
theorem dX12_change_21 : decode cX12_change 21 = .ok (.invokestatic 73, 3) := by decide +kernel
theorem dX12_change_24 : decode cX12_change 24 = .ok (.ifCond .eq 19, 3) := by decide +kernel
theorem dX12_change_27 : decode cX12_change 27 = .ok (.aload_n 0, 1) := by decide +kernel
theorem dX12_change_28 : decode cX12_change 28 = .ok (.bipush 8, 2) := by decide +kernel
theorem dX12_change_30 : decode cX12_change 30 = .ok (.iconst 3, 1) := by decide +kernel
theorem dX12_change_31 : decode cX12_change 31 = .ok (.iload_n 1, 1) := by decide +kernel
theorem dX12_change_32 : decode cX12_change 32 = .ok (.imul, 1) := by decide +kernel
theorem dX12_change_33 : decode cX12_change 33 = .ok (.iadd, 1) := by decide +kernel
theorem dX12_change_34 : decode cX12_change 34 = .ok (.iload_n 2, 1) := by decide +kernel
theorem dX12_change_35 : decode cX12_change 35 = .ok (.iadd, 1) := by decide +kernel
theorem dX12_change_36 : decode cX12_change 36 = .ok (.iload_n 3, 1) := by decide +kernel
theorem dX12_change_37 : decode cX12_change 37 = .ok (.invokevirtual 112, 3) := by decide +kernel
theorem dX12_change_40 : decode cX12_change 40 = .ok (.goto 5, 3) := by decide +kernel
theorem dX12_change_43 : decode cX12_change 43 = .ok (.ldc 78, 2) := by decide +kernel
theorem dX12_change_45 : decode cX12_change 45 = .ok (.ireturn, 1) := by decide +kernel
theorem dX12_doAgree_0 : decode cX12_doAgree 0 = .ok (.aload_n 0, 1) := by decide +kernel
theorem dX12_doAgree_1 : decode cX12_doAgree 1 = .ok (.iload_n 1, 1) := by decide +kernel
theorem dX12_doAgree_2 : decode cX12_doAgree 2 = .ok (.iconst 2, 1) := by decide +kernel
theorem dX12_doAgree_3 : decode cX12_doAgree 3 = .ok (.invokevirtual 95, 3) := by decide +kernel
theorem dX12_doAgree_6 : decode cX12_doAgree 6 = .ok (.iload_n 2, 1) := by decide +kernel
theorem dX12_doAgree_7 : decode cX12_doAgree 7 = .ok (.ishr, 1) := by decide +kernel
theorem dX12_doAgree_8 : decode cX12_doAgree 8 = .ok (.iconst 1, 1) := by decide +kernel
theorem dX12_doAgree_9 : decode cX12_doAgree 9 = .ok (.iand, 1) := by decide +kernel
theorem dX12_doAgree_10 : decode cX12_doAgree 10 = .ok (.iconst 1, 1) := by decide +kernel
theorem dX12_doAgree_11 : decode cX12_doAgree 11 = .ok (.if_icmp .ne 7, 3) := by decide +kernel
theorem dX12_doAgree_14 : decode cX12_doAgree 14 = .ok (.iconst 1, 1) := by decide +kernel
theorem dX12_doAgree_15 : decode cX12_doAgree 15 = .ok (.goto 4, 3) := by decide +kernel
theorem dX12_doAgree_18 : decode cX12_doAgree 18 = .ok (.iconst 0, 1) := by decide +kernel
theorem dX12_doAgree_19 : decode cX12_doAgree 19 = .ok (.ireturn, 1) := by decide +kernel
theorem dX12_agree_0 : decode cX12_agree 0 = .ok (.aload_n 0, 1) := by decide +kernel
theorem dX12_agree_1 : decode cX12_agree 1 = .ok (.iload_n 1, 1) := by decide +kernel
theorem dX12_agree_2 : decode cX12_agree 2 = .ok (.invokevirtual 105, 3) := by decide +kernel
theorem dX12_agree_5 : decode cX12_agree 5 = .ok (.ifCond .eq 25, 3) := by decide +kernel
theorem dX12_agree_8 : decode cX12_agree 8 = .ok (.aload_n 0, 1) := by decide +kernel
theorem dX12_agree_9 : decode cX12_agree 9 = .ok (.iload_n 2, 1) := by decide +kernel
theorem dX12_agree_10 : decode cX12_agree 10 = .ok (.invokevirtual 105, 3) := by decide +kernel
theorem dX12_agree_13 : decode cX12_agree 13 = .ok (.ifCond .eq 17, 3) := by decide +kernel
theorem dX12_agree_16 : decode cX12_agree 16 = .ok (.iload_n 1, 1) := by decide +kernel
theorem dX12_agree_17 : decode cX12_agree 17 = .ok (.iload_n 2, 1) := by decide +kernel
theorem dX12_agree_18 : decode cX12_agree 18 = .ok (.if_icmp .eq 12, 3) := by decide +kernel
theorem dX12_agree_21 : decode cX12_agree 21 = .ok (.iload_n 3, 1) := by decide +kernel
theorem dX12_agree_22 : decode cX12_agree 22 = .ok (.iconst 0, 1) := by decide +kernel
theorem dX12_agree_23 : decode cX12_agree 23 = .ok (.iconst 1, 1) := by decide +kernel
theorem dX12_agree_24 : decode cX12_agree 24 = .ok (.invokestatic 73, 3) := by decide +kernel
theorem dX12_agree_27 : decode cX12_agree 27 = .ok (.ifCond .ne 6, 3) := by decide +kernel
theorem dX12_agree_30 : decode cX12_agree 30 = .ok (.ldc 78, 2) := by decide +kernel
theorem dX12_agree_32 : decode cX12_agree 32 = .ok (.ireturn, 1) := by decide +kernel
theorem dX12_agree_33 : decode cX12_agree 33 = .ok (.aload_n 0, 1) := by decide +kernel
theorem dX12_agree_34 : decode cX12_agree 34 = .ok (.iload_n 1, 1) := by decide +kernel
theorem dX12_agree_35 : decode cX12_agree 35 = .ok (.iload_n 2, 1) := by decide +kernel
theorem dX12_agree_36 : decode cX12_agree 36 = .ok (.invokevirtual 115, 3) := by decide +kernel
theorem dX12_agree_39 : decode cX12_agree 39 = .ok (.ifCond .eq 7, 3) := by decide +kernel
theorem dX12_agree_42 : decode cX12_agree 42 = .ok (.iconst 1, 1) := by decide +kernel
theorem dX12_agree_43 : decode cX12_agree 43 = .ok (.goto 4, 3) := by decide +kernel
theorem dX12_agree_46 : decode cX12_agree 46 = .ok (.iconst 0, 1) := by decide +kernel
theorem dX12_agree_47 : decode cX12_agree 47 = .ok (.istore 4, 2) := by decide +kernel
theorem dX12_agree_49 : decode cX12_agree 49 = .ok (.iload 4, 2) := by decide +kernel
theorem dX12_agree_51 : decode cX12_agree 51 = .ok (.iload_n 3, 1) := by decide +kernel
theorem dX12_agree_52 : decode cX12_agree 52 = .ok (.if_icmp .eq 41, 3) := by decide +kernel
theorem dX12_agree_55 : decode cX12_agree 55 = .ok (.aload_n 0, 1) := by decide +kernel
theorem dX12_agree_56 : decode cX12_agree 56 = .ok (.getfield 9, 3) := by decide +kernel
theorem dX12_agree_59 : decode cX12_agree 59 = .ok (.bipush 8, 2) := by decide +kernel
theorem dX12_agree_61 : decode cX12_agree 61 = .ok (.iconst 3, 1) := by decide +kernel
theorem dX12_agree_62 : decode cX12_agree 62 = .ok (.iload_n 1, 1) := by decide +kernel
theorem dX12_agree_63 : decode cX12_agree 63 = .ok (.imul, 1) := by decide +kernel
